section
/-! SAY: what a text says is written -/
def IEQ (T W : sS) : Prop := Xi W 904 160 = Xi T 904 160 ∧ (∀ j : Nat, (j : Int) < Xi T 904 160 → Xj W 994 j = Xj T 994 j) ∧ (∀ j : Nat, Xj W 911 j = Xj T 911 j) ∧ (∀ m : Int, LXK W T m) ∧ Xi W 904 15 = Xi T 904 15 ∧ (∀ j : Nat, Xi W 914 j = Xi T 914 j) ∧ (∀ j : Nat, Xi W 915 j = Xi T 915 j)
theorem ik_w {T W : sS} (h : IEQ T W) {i : Int} (h0 : 0 ≤ i) (h1 : i < Xi T 904 160) : ikR W i = ikR T i := by
  unfold ikR kyr
  rw [h.2.1 i.toNat (by omega), show Xj W 911 = Xj T 911 from funext h.2.2.1]
theorem ofF_w {T W : sS} (h : IEQ T W) : ∀ (m : Nat) (i : Int), 0 ≤ i → ofF W m i = ofF T m i
  | 0, _, _ => rfl
  | m + 1, i, h0 => by
    rw [ofF, ofF, h.1]
    by_cases q : i < Xi T 904 160
    · rw [ik_w h h0 q, ofF_w h m (i + 1) (by omega)]
    · rw [if_neg (fun x => q x.1), if_neg (fun x => q x.1)]
theorem fiR_w {T W : sS} (h : IEQ T W) {a n : Int} (h0 : 0 ≤ a) (h1 : a + n ≤ Xi T 904 160) : fiR W a n = fiR T a n := by
  have e : frK W a n ↔ frK T a n := ⟨fun f j j0 j1 => (ik_w h (by omega) (by omega)).symm.trans (f j j0 j1), fun f j j0 j1 => (ik_w h (by omega) (by omega)).trans (f j j0 j1)⟩
  by_cases q : frK T a n ∧ 1 ≤ n ∧ n ≤ 3
  · rw [fiR_y (e.2 q.1) q.2 rfl rfl rfl, fiR_y q.1 q.2 rfl rfl rfl, h.2.1 a.toNat (by omega)]
    have x1 : (if 1 < n then Xj W 994 (a + 1).toNat else 0) = (if 1 < n then Xj T 994 (a + 1).toNat else 0) := by
      by_cases c : 1 < n
      · rw [if_pos c, if_pos c, h.2.1 _ (by omega)]
      · rw [if_neg c, if_neg c]
    have x2 : (if 2 < n then Xj W 994 (a + 2).toNat else 0) = (if 2 < n then Xj T 994 (a + 2).toNat else 0) := by
      by_cases c : 2 < n
      · rw [if_pos c, if_pos c, h.2.1 _ (by omega)]
      · rw [if_neg c, if_neg c]
    rw [x1, x2, h.2.2.2.2.1, fdR_k _ (h.2.2.2.1 _)]
  · rw [fiR_n q, fiR_n (fun x => q ⟨e.1 x.1, x.2⟩)]
theorem itW_w {T W : sS} (h : IEQ T W) {a : Int} (h0 : 0 ≤ a) (h1 : a ≤ Xi T 904 160) : itW W a = itW T a := by
  unfold itW
  rw [h.1]
  by_cases c : 0 < Xi T 904 160 - a
  · rw [ik_w h (i := Xi T 904 160 - 1) (by omega) (by omega), ik_w h h0 (by omega)]
    generalize hf : (if 0 < Xi T 904 160 - a ∧ 100 ≤ ikR T a ∧ ikR T a ≤ 103 then a + 1 else a) = f
    have ff : a ≤ f ∧ f ≤ a + 1 := by rw [← hf]; split <;> omega
    rw [fiR_w h (a := f) (by omega) (by omega), h.2.2.2.2.2.1, h.2.2.2.2.2.2]
  · have i1 : (if 0 < Xi T 904 160 - a ∧ 100 ≤ ikR W a ∧ ikR W a ≤ 103 then a + 1 else a) = a := if_neg (fun x => c x.1)
    have i2 : (if 0 < Xi T 904 160 - a ∧ 100 ≤ ikR T a ∧ ikR T a ≤ 103 then a + 1 else a) = a := if_neg (fun x => c x.1)
    have n1 : ¬ (0 < Xi T 904 160 - a ∧ ikR W (Xi T 904 160 - 1) = 153) := fun x => c x.1
    have n2 : ¬ (0 < Xi T 904 160 - a ∧ ikR T (Xi T 904 160 - 1) = 153) := fun x => c x.1
    rw [if_neg n1, if_neg n2, i1, i2, fiR_w h h0 (by omega), h.2.2.2.2.2.1, h.2.2.2.2.2.2]
theorem ofR_w {T W : sS} (h : IEQ T W) : ofR W = ofR T := ofF_w h 65 1 (by omega)
theorem isO_w {T W : sS} (h : IEQ T W) : isO W ↔ isO T := by
  unfold isO
  rw [h.1, ofR_w h]
  constructor
  · rintro ⟨a, b, c, d, e⟩
    exact ⟨a, by rw [← ik_w h (by omega) a]; exact b, c, d, by rw [← ik_w h (by omega) d]; exact e⟩
  · rintro ⟨a, b, c, d, e⟩
    exact ⟨a, by rw [ik_w h (by omega) a]; exact b, c, d, by rw [ik_w h (by omega) d]; exact e⟩
theorem int_w {T W : sS} {t p : Int} (h : IEQ T W) (l : 0 ≤ Xi T 904 160) (i : INT T t p) : INT W t p := by
  obtain ⟨i1, i2, i3⟩ := i
  refine ⟨fun o => ?_, fun o => ?_, i3⟩
  · have o2 := (isO_w h).1 o
    obtain ⟨x, y, z⟩ := i1 o2
    obtain ⟨_, _, o3, o4, _⟩ := o2
    refine ⟨?_, ?_, z⟩
    · rw [ofR_w h, itW_w h (by omega) (by omega)]; exact x
    · rw [← y]; unfold ipR; rw [ofR_w h, fiR_w h (a := 1) (by omega) (by omega), h.2.2.2.2.2.1, h.2.2.2.2.2.2]
  · obtain ⟨x, y⟩ := i2 (fun q => o ((isO_w h).2 q))
    exact ⟨by rw [itW_w h (by omega) l]; exact x, y⟩
theorem inx_w {S W W1 : sS} {e o q t p z : Int} (h : INX S e o q t p) (kS : XP S W) (k : XP W W1) (r : RWO W W1 (o + 1) e z) : z = q + 1 ∧ z ≠ -1 ∧ INT W1 t p := by
  obtain ⟨T, L, k1, w1, ⟨q1, q2⟩, ⟨⟨r1, r3⟩, r2⟩, i⟩ := h
  have eb : Xi W 906 = Xi S 906 := funext (fun j => kS.i (by omega))
  have n93 : ∀ x : Int, Xi S 906 x.toNat = 93 → x < e → StW (Xi S 906) e x := fun x hx hl => Or.inr ⟨hl, by rw [hx]; decide, Or.inl (we7_n (by rw [hx]; decide))⟩
  have st := n93 q q2 q1
  obtain ⟨ra, rb⟩ := r
  by_cases hz : z = -1
  · exfalso
    obtain ⟨L', p', w', d⟩ := ra hz
    rw [eb] at w' d
    have c : StW (Xi S 906) e p' → False := fun s => by
      obtain ⟨_, e2⟩ := wl_u st s L L' (o + 1) w1 w'
      subst e2
      rcases d with d | d
      · omega
      · exact d.2.2.1 q2
    rcases d with d | ⟨d1, d2, d3, d4⟩
    · exact c (Or.inl d)
    · by_cases c1 : we7 (Xi S 906) e p' = p'
      · exact c (Or.inr ⟨d1, d2, Or.inl c1⟩)
      · by_cases c2 : 12 < we7 (Xi S 906) e p' - p'
        · exact c (Or.inr ⟨d1, d2, Or.inr c2⟩)
        · have b := we7_b (B := Xi S 906) (e := e) (p := p')
          have w2 := wl_w L' w' d1 d2 rfl c1 (by omega) (b.2 (by omega))
          have l := wl_64 st L _ (o + 1) w1 w2
          rw [List.length_append] at l
          simp at l
          omega
  · obtain ⟨L', w', c1, c2, r'⟩ := rb hz
    rw [eb] at w' c2
    obtain ⟨e1, e2⟩ := wl_u st (n93 _ c2 c1) L L' _ w1 w'
    subst e1
    refine ⟨by omega, hz, int_w (T := T) ⟨by rw [r'.1, r1], fun j hj => ?_, fun j => ?_, fun m x _ _ => ?_, ?_, fun j => ?_, fun j => ?_⟩ (by omega) i⟩
    · rw [r'.2 j (by omega), r3 j (by omega)]; unfold icr; rw [eb]
    · rw [k.j (by omega), kS.j (by omega), k1.j 911 rfl]
    · rw [k.i (c := 912) (by omega), kS.i (c := 912) (by omega), k1.x 912 rfl, k.j (c := 913) (by omega), kS.j (c := 913) (by omega), k1.j 913 rfl, k.j (c := 913) (by omega), kS.j (c := 913) (by omega), k1.j 913 rfl, k.j (c := 913) (by omega), kS.j (c := 913) (by omega), k1.j 913 rfl, k.i (c := 916) (by omega), kS.i (c := 916) (by omega), k1.x 916 rfl, k.i (c := 914) (by omega), kS.i (c := 914) (by omega), k1.x 914 rfl, k.i (c := 915) (by omega), kS.i (c := 915) (by omega), k1.x 915 rfl]
      exact ⟨rfl, rfl, rfl, rfl, rfl, rfl, rfl⟩
    · rw [k.g (by omega), kS.g (by omega), k1.f 904 15 (by decide)]
    · rw [k.i (by omega), kS.i (by omega), k1.x 914 rfl]
    · rw [k.i (by omega), kS.i (by omega), k1.x 915 rfl]
/-- how far a text is written -/
def WLO (S T : sS) (e o a v : Int) : Prop := ∀ L : List Int, WTX S e o 5001 a L → ∃ (M L2 : List Int) (f : Nat), OUP 993 904 156 S T M ∧ WTX S e o f v L2 ∧ L = M ++ L2
theorem wlo_0 {S : sS} {e o a : Int} (h : 0 ≤ Xi S 904 156 ∧ Xi S 904 156 ≤ 2000) : WLO S S e o a a := fun L w => ⟨[], L, 5001, oup_0 h, w, rfl⟩
theorem wlo_e {S T : sS} {e o a v : Int} (h : WLO S T e o a v) (hv : e ≤ v) : ∀ L : List Int, WTX S e o 5001 a L → OUP 993 904 156 S T L := fun L w => by
  obtain ⟨M, L2, f, m, w2, e1⟩ := h L w
  have z : L2 = [] := by
    cases f with
    | zero => exact w2.2
    | succ f =>
      rcases w2 with x | x | x
      · exact x.2
      · omega
      · omega
  rw [e1, z, List.append_nil]; exact m
theorem wlo_3 {S T : sS} {e o a v : Int} {R : List Int → Prop} (h : WLO S T e o a v) (hv : v < e) (hb : Xi S 906 v.toNat = 93) : ∀ L : List Int, WTX S e o 5001 a L → R L := fun L w => by
  obtain ⟨M, L2, f, m, w2, e1⟩ := h L w
  exfalso
  cases f with
  | zero => have := w2.1; omega
  | succ f => rcases w2 with x | x | x <;> omega
theorem wlo_p {S T U : sS} {e o a v b : Int} (h0 : 0 ≤ Xi S 904 156 ∧ Xi S 904 156 ≤ 2000) (h : WLO S T e o a v) (hv : v < e) (hb : Xi S 906 v.toNat = b) (n : b ≠ 91 ∧ b ≠ 93) (u : OUP 993 904 156 T U [b]) : WLO S U e o a (v + 1) := fun L w => by
  obtain ⟨M, L2, f, m, w2, e1⟩ := h L w
  cases f with
  | zero => have := w2.1; omega
  | succ f =>
    rcases w2 with x | ⟨_, _, _, N, x1, x2⟩ | x
    · omega
    · exact ⟨M ++ [b], N, f, oup_tr h0 m u, x2, by rw [e1, x1, hb, List.append_assoc]; rfl⟩
    · omega
theorem wlo_w {S T W X : sS} {e o a v z y : Int} {l : List rec} (h0 : 0 ≤ Xi S 904 156 ∧ Xi S 904 156 ≤ 2000) (h : WLO S T e o a v) (hv : v < e) (hb : Xi S 906 v.toNat = 91) (kS : XP S T) (F : FR l T W) (el : l = [(904, 905, 160, 161), (994, 995, 0, 100000)]) (r : RWO T W (v + 1) e z) (eo : o = Xi S 904 158) (i : z ≠ -1 → SIW W X y) : (z = -1 → ∀ R : List Int → Prop, ∀ L : List Int, WTX S e o 5001 a L → R L) ∧ (y = 0 → z ≠ -1 → ∀ R : List Int → Prop, ∀ L : List Int, WTX S e o 5001 a L → R L) ∧ (z ≠ -1 → WLO S X e o a z) := by
  subst el
  have k : XP T W := fun c j h1 h2 h3 => by
    have q : mdf [(904, 905, 160, 161), (994, 995, 0, 100000)] c j = false := by
      cases hh : mdf [(904, 905, 160, 161), (994, 995, 0, 100000)] c j with
      | false => rfl
      | true =>
        exfalso
        unfold mdf at hh
        simp only [List.any_cons, List.any_nil, Bool.or_false, inR, Bool.and_eq_true, Bool.or_eq_true, Nat.blt, Nat.ble_eq] at hh
        omega
    exact ⟨F.x c j q, F.xj c j q⟩
  have main : ∀ L : List Int, WTX S e o 5001 a L → z ≠ -1 ∧ (z ≠ -1 → y = 1 ∧ ∃ (M L2 : List Int) (f : Nat), OUP 993 904 156 S X M ∧ WTX S e o f z L2 ∧ L = M ++ L2) := fun L w => by
    obtain ⟨M, L2, f, m, w2, e1⟩ := h L w
    cases f with
    | zero => have := w2.1; omega
    | succ f =>
      rcases w2 with x | x | ⟨_, _, q, t, p, P, N, x1, x2, x3, x4⟩
      · omega
      · omega
      · obtain ⟨j1, j2, j3⟩ := inx_w x1 kS k r
        refine ⟨j2, fun nz => ?_⟩
        have kW := kS.tr k
        have pc : PCE W t p (Xi W 904 158) P := by
          rw [kW.g (by omega), ← eo]
          exact pce_p kW (fun k q => hsN_k (fun j => kW.i (by omega)) (fun j => kW.i (by omega)) 17 k) x2
        obtain ⟨s1, s2⟩ := i nz t p P j3 pc
        exact ⟨s1, M ++ P, N, f, oup_tr h0 m (oup_rf F rfl rfl s2), by rw [j1]; exact x4, by rw [e1, x3, List.append_assoc]⟩
  exact ⟨fun hz R L w => absurd hz (main L w).1, fun hy nz R L w => absurd ((main L w).2 nz).1 (by omega), fun nz L w => ((main L w).2 nz).2⟩

def md_mo_written__q : List rec := [(904, 905, 154, 155), (904, 905, 156, 157), (904, 905, 160, 161), (993, 994, 0, 100000), (994, 995, 0, 100000)]
abbrev Q_mo_written__q (S : sS) (from_ : Int) (n : Int) : pst := fun r S1 => HI S1 ∧ FR md_mo_written__q S S1 ∧ (∃ z : Int, r = some (iv z) ∧ (0 ≤ z ∧ z ≤ 1) ∧ (∀ L : List Int, WTX S (from_ + n) (Xi S 904 158) 5001 from_ L → OUP 993 904 156 S S1 L))
set_option maxRecDepth 100000 in
theorem t_mo_written__q {S : sS} (hH : HI S) (from_ : Int) (n : Int) (hfrom_ : 0 ≤ from_ ∧ from_ ≤ 5000) (hn : 0 ≤ n ∧ n ≤ 5000) (hA : from_ + n ≤ 5000) (hM : LXM S) (hB : ABV S) (hX : TXM S) (hno : Xi S 904 158 < Xi S 904 19) (hnw : NMWD S) (hdy : DR0 S) (d : Nat) : Mt lay0 (d + 6) m_mo_written [.ref 904, iv from_, iv n] S (Q_mo_written__q S from_ n) := by
  refine Mt_R rfl rfl ?_
  have hF : FR md_mo_written__q S S := FR.rf
  have w1 : -1 ≤ Xi S 904 158 ∧ Xi S 904 158 ≤ 23 := hH.c _ _
  have w2 : 0 ≤ Xi S 904 19 ∧ Xi S 904 19 ≤ 24 := hH.c _ _
  have hd0 : Xi S 904 157 = 0 := hdy
  have h156 : 0 ≤ Xi S 904 156 ∧ Xi S 904 156 ≤ 2000 := hH.c _ _
  have C7 : ∀ (n7 : Nat) (T1 : sS) (_ : HI T1) (_ : FR md_mo_written__q S T1) (v3 : Int) (v4 : Int), (0 ≤ v3 ∧ v3 ≤ 5000) → (0 ≤ v4 ∧ v4 ≤ 5000) → (from_ ≤ v3) → (v4 = from_ + n) → (WLO S T1 (from_ + n) (Xi S 904 158) from_ v3) → n7 = (5001 - v3).toNat → Rl lay0 (d + 5) m_mo_written 7 [(0, .ref 904), (3, iv v3), (4, iv v4)] [] T1 (Q_mo_written__q S from_ n) := by
    intro n7
    induction n7 using Nat.strongRecOn with
    | ind n7 ih7 =>
      intro T1 hHT1 hFT1 v3 v4 w3 w4 w5 w6 l7 hm7
      have w7 : Xi T1 904 158 = Xi S 904 158 := hFT1.x _ _ rfl
      have w8 : Xi T1 904 19 = Xi S 904 19 := hFT1.x _ _ rfl
      refine l_iload_n rfl rfl ?_
      refine l_iload rfl rfl ?_
      refine l_icmp_ge rfl rfl (by unfold rg; omega) (by unfold rg; omega) (fun w9 => ?_) (fun w10 => ?_)
      · refine l_iconst rfl ?_
        refine l_ireturn rfl rfl ?_
        exact ⟨hHT1, hFT1, _, rfl, ⟨by omega, by omega⟩, (by first | (have t := K53; exact (W53).1 (by omega) (by omega) _) | (have t := K43; exact N43 (by omega)) | (have t := K31; exfalso; omega) | (have t := B18; exact wlo_3 l7 (by omega) (by omega)) | exact wlo_e l7 (by omega))⟩
      · refine l_aload_n rfl rfl ?_
        refine l_gfr rfl rfl rfl rfl rfl (hHT1.r 904 2 906 rfl) ?_
        refine l_iload_n rfl rfl ?_
        refine l_baload (n := 5000) rfl rfl rfl (by decide) (by omega) (by omega) (by unfold rg; omega) ?_
        have w11 : -128 ≤ (Xi T1 906 ((v3).toNat)) ∧ (Xi T1 906 ((v3).toNat)) ≤ 127 := hHT1.c _ _
        have B18 : (Xi T1 906 ((v3).toNat)) = Xi S 906 v3.toNat := (hFT1.cx 906 rfl _).1
        refine l_bipush rfl rfl ?_
        refine l_icmp_ne rfl rfl (by unfold rg; omega) (by unfold rg; omega) (fun w12 => ?_) (fun w13 => ?_)
        · refine l_aload_n rfl rfl ?_
          refine l_gfr rfl rfl rfl rfl rfl (hHT1.r 904 2 906 rfl) ?_
          refine l_iload_n rfl rfl ?_
          refine l_baload (n := 5000) rfl rfl rfl (by decide) (by omega) (by omega) (by unfold rg; omega) ?_
          have K31 : True := trivial
          have B31 : (Xi T1 906 ((v3).toNat)) = Xi S 906 v3.toNat := (hFT1.cx 906 rfl _).1
          refine l_bipush rfl rfl ?_
          refine l_icmp_ne rfl rfl (by unfold rg; omega) (by unfold rg; omega) (fun w14 => ?_) (fun w15 => ?_)
          · refine l_aload_n rfl rfl ?_
            refine l_aload_n rfl rfl ?_
            refine l_gfr rfl rfl rfl rfl rfl (hHT1.r 904 2 906 rfl) ?_
            refine l_iload_n rfl rfl ?_
            refine l_baload (n := 5000) rfl rfl rfl (by decide) (by omega) (by omega) (by unfold rg; omega) ?_
            have B67 : (Xi T1 906 ((v3).toNat)) = Xi S 906 v3.toNat := (hFT1.cx 906 rfl _).1
            have w16 : 0 ≤ Xi T1 904 157 ∧ Xi T1 904 157 ≤ 1 := hHT1.c _ _
            refine l_callV rfl rfl rfl (t_mo_put__q hHT1 (Xi T1 906 ((v3).toNat)) ⟨by omega, by omega⟩ _) ?_
            rintro _ T2 ⟨hHT2, w19, rfl, o68, w17⟩
            have hFT2 : FR md_mo_written__q S T2 := FR.tr hFT1 w19 rfl
            show Rl _ _ _ _ _ [] _ _
            have O68 := o68 (by rw [hFT1.x 904 157 rfl]; exact hd0)
            refine l_iinc rfl rfl rfl rfl ?_
            refine l_goto rfl rfl ?_
            exact Rl_weak (ih7 _ (by omega) T2 hHT2 hFT2 ((v3 + 1)) (v4) (by omega) (by omega) (by omega) (by omega) (by first | exact wlo_0 h156 | (have t := K53; exact W53.2 (by omega)) | exact wlo_p h156 l7 (by omega) B67.symm (by omega) O68) rfl) (And.intro rfl (And.intro rfl (And.intro rfl (True.intro))))
          · refine l_aload_n rfl rfl ?_
            refine l_iload_n rfl rfl ?_
            refine l_iconst rfl ?_
            refine l_iadd rfl ?_
            refine l_iload rfl rfl ?_
            refine l_callV rfl rfl rfl (t_mo_words__b hHT1 (v3 + 1) v4 ⟨by omega, by omega⟩ ⟨by omega, by omega⟩ _) ?_
            rintro _ T3 ⟨hHT3, w22, z21, rfl, w21, w20, r43⟩
            have hFT3 : FR md_mo_written__q S T3 := FR.tr hFT1 w22 rfl
            show Rl _ _ _ _ _ [iv z21] _ _
            have K43 : True := trivial
            have R43 : RWO T1 T3 (v3 + 1) (from_ + n) z21 := by have t := r43 (by omega); (try rw [show v4 = from_ + n by omega] at t); exact t
            have G43 : FR md_mo_words__b T1 T3 := by assumption
            have N43 : z21 = -1 → ∀ L : List Int, WTX S (from_ + n) (Xi S 904 158) 5001 from_ L → OUP 993 904 156 S T3 L := fun q => (wlo_w (X := S) (y := 0) h156 l7 (by omega) (by omega) (XP.f hFT1 rfl) G43 rfl R43 rfl (fun h => absurd q h)).1 q _
            have Y43 : ∀ (X : sS) (y : Int), SIW T3 X y → (y = 0 → z21 ≠ -1 → ∀ R : List Int → Prop, ∀ L : List Int, WTX S (from_ + n) (Xi S 904 158) 5001 from_ L → R L) ∧ (z21 ≠ -1 → WLO S X (from_ + n) (Xi S 904 158) from_ z21) := fun X y i => (wlo_w h156 l7 (by omega) (by omega) (XP.f hFT1 rfl) G43 rfl R43 rfl (fun _ => i)).2
            refine l_istore_n rfl rfl rfl ?_
            refine l_iload_n rfl rfl ?_
            refine l_iconst rfl ?_
            refine l_icmp_eq rfl rfl (by unfold rg; omega) (by unfold rg; omega) (fun w23 => ?_) (fun w24 => ?_)
            · refine l_iconst rfl ?_
              refine l_ireturn rfl rfl ?_
              exact ⟨hHT3, hFT3, _, rfl, ⟨by omega, by omega⟩, (by first | (have t := K53; exact (W53).1 (by omega) (by omega) _) | (have t := K43; exact N43 (by omega)) | (have t := K31; exfalso; omega) | (have t := B18; exact wlo_3 l7 (by omega) (by omega)) | exact wlo_e l7 (by omega))⟩
            · refine l_aload_n rfl rfl ?_
              have w25 : Xi T3 904 158 = Xi T1 904 158 := (show Xi T3 904 158 = Xi T1 904 158 from w22.x _ _ rfl)
              have w26 : -1 ≤ Xi T1 904 158 ∧ Xi T1 904 158 ≤ 23 := hHT1.c _ _
              have w27 : Xi T3 904 19 = Xi T1 904 19 := (show Xi T3 904 19 = Xi T1 904 19 from w22.x _ _ rfl)
              have w28 : 0 ≤ Xi T1 904 19 ∧ Xi T1 904 19 ≤ 24 := hHT1.c _ _
              refine l_callV rfl rfl rfl (t_mo_saysInside__q hHT3 (by first | assumption | exact (LXM_FR hFT3 rfl (by assumption : LXM S))) (by first | assumption | exact (ABV_FR hFT3 rfl (by assumption : ABV S))) (by first | assumption | exact (TXM_FR hFT3 rfl (by assumption : TXM S))) (by first | assumption | omega) (by first | assumption | exact (NMWD_FR hFT3 rfl (by assumption : NMWD S))) (by first | assumption | exact (DR0_FR hFT3 rfl (by assumption : DR0 S))) _) ?_
              rintro _ T4 ⟨hHT4, w30, z29, rfl, w29, w53⟩
              have hFT4 : FR md_mo_written__q S T4 := FR.tr hFT3 w30 rfl
              show Rl _ _ _ _ _ [iv z29] _ _
              have K53 : True := trivial
              have W53 := Y43 _ _ w53
              refine l_if_ne rfl rfl (by unfold rg; omega) (fun w31 => ?_) (fun w32 => ?_)
              · exact Rl_weak (ih7 _ (by omega) T4 hHT4 hFT4 (z21) (v4) (by omega) (by omega) (by omega) (by omega) (by first | exact wlo_0 h156 | (have t := K53; exact W53.2 (by omega)) | exact wlo_p h156 l7 (by omega) B67.symm (by omega) O68) rfl) (And.intro rfl (And.intro rfl (And.intro rfl (True.intro))))
              · refine l_iconst rfl ?_
                refine l_ireturn rfl rfl ?_
                exact ⟨hHT4, hFT4, _, rfl, ⟨by omega, by omega⟩, (by first | (have t := K53; exact (W53).1 (by omega) (by omega) _) | (have t := K43; exact N43 (by omega)) | (have t := K31; exfalso; omega) | (have t := B18; exact wlo_3 l7 (by omega) (by omega)) | exact wlo_e l7 (by omega))⟩
        · refine l_iconst rfl ?_
          refine l_ireturn rfl rfl ?_
          exact ⟨hHT1, hFT1, _, rfl, ⟨by omega, by omega⟩, (by first | (have t := K53; exact (W53).1 (by omega) (by omega) _) | (have t := K43; exact N43 (by omega)) | (have t := K31; exfalso; omega) | (have t := B18; exact wlo_3 l7 (by omega) (by omega)) | exact wlo_e l7 (by omega))⟩
  refine l_iload_n rfl rfl ?_
  refine l_istore_n rfl rfl rfl ?_
  refine l_iload_n rfl rfl ?_
  refine l_iload_n rfl rfl ?_
  refine l_iadd rfl ?_
  refine l_istore rfl rfl rfl ?_
  exact Rl_weak (C7 _ S hH hF (from_) ((from_ + n)) (by omega) (by omega) (by omega) (by omega) (by first | exact wlo_0 h156 | (have t := K53; exact W53.2 (by omega)) | exact wlo_p h156 l7 (by omega) B67.symm (by omega) O68) rfl) (And.intro rfl (And.intro rfl (And.intro rfl (True.intro))))
end
section
/-! SAY: [ ] of a text, one after another -/
theorem br_cl {B : Nat → Int} {f o : Int} {L1 : List (Int × Int)} : ∀ (d m : Nat), brF B f m = some (o, L1) → o ≠ -1 → (∃ L : List (Int × Int), brF B f (m + d) = some (-1, L)) → ∃ j : Nat, m ≤ j ∧ j < m + d ∧ B (f + j).toNat = 93 ∧ (∀ i : Nat, m ≤ i → i < j → B (f + i).toNat ≠ 91 ∧ B (f + i).toNat ≠ 93) ∧ brF B f (j + 1) = some (-1, (o, f + j) :: L1)
  | 0, m, h, ho, ⟨L, e⟩ => by
    rw [Nat.add_zero, h] at e
    simp only [Option.some.injEq, Prod.mk.injEq] at e
    exact absurd e.1 ho
  | d + 1, m, h, ho, ⟨L, e⟩ => by
    by_cases c : B (f + m).toNat = 91
    · have z : brF B f (m + 1) = none := by rw [brF_1 h, if_pos c, if_neg ho]
      have z2 := br_m z d
      rw [show m + 1 + d = m + (d + 1) by omega, e] at z2
      exact absurd z2 (by simp)
    · by_cases c2 : B (f + m).toNat = 93
      · exact ⟨m, Nat.le_refl _, by omega, c2, fun i h1 h2 => absurd h1 (by omega), by rw [brF_1 h, if_neg c, if_pos c2, if_neg ho]⟩
      · have z : brF B f (m + 1) = some (o, L1) := by rw [brF_1 h, if_neg c, if_neg c2]
        obtain ⟨j, j1, j2, j3, j4, j5⟩ := br_cl d (m + 1) z ho ⟨L, by rw [show m + 1 + d = m + (d + 1) by omega]; exact e⟩
        refine ⟨j, by omega, by omega, j3, fun i h1 h2 => ?_, j5⟩
        by_cases q : i = m
        · rw [q]; exact ⟨c, c2⟩
        · exact j4 i (by omega) h2
theorem br_sf {B : Nat → Int} {f o1 : Int} {m : Nat} {L1 : List (Int × Int)} (h : brF B f m = some (o1, L1)) : ∀ (d : Nat) (o2 : Int) (L2 : List (Int × Int)), brF B f (m + d) = some (o2, L2) → ∃ L3 : List (Int × Int), L2 = L3 ++ L1
  | 0, o2, L2, e => by
    rw [Nat.add_zero, h] at e
    simp only [Option.some.injEq, Prod.mk.injEq] at e
    exact ⟨[], e.2.symm⟩
  | d + 1, o2, L2, e => by
    cases c : brF B f (m + d) with
    | none =>
      rw [show m + (d + 1) = m + d + 1 by omega, brF_0 c] at e
      exact absurd e (by simp)
    | some y =>
      obtain ⟨o3, L3⟩ := y
      obtain ⟨L4, i4⟩ := br_sf h d o3 L3 c
      rw [show m + (d + 1) = m + d + 1 by omega, brF_1 c] at e
      by_cases c1 : B (f + ((m + d : Nat) : Int)).toNat = 91
      · rw [if_pos c1] at e
        by_cases c3 : o3 = -1
        · rw [if_pos c3] at e
          simp only [Option.some.injEq, Prod.mk.injEq] at e
          exact ⟨L4, by rw [← e.2]; exact i4⟩
        · rw [if_neg c3] at e; exact absurd e (by simp)
      · rw [if_neg c1] at e
        by_cases c2 : B (f + ((m + d : Nat) : Int)).toNat = 93
        · rw [if_pos c2] at e
          by_cases c3 : o3 = -1
          · rw [if_pos c3] at e; exact absurd e (by simp)
          · rw [if_neg c3] at e
            simp only [Option.some.injEq, Prod.mk.injEq] at e
            exact ⟨(o3, f + ((m + d : Nat) : Int)) :: L4, by rw [← e.2, i4]; rfl⟩
        · rw [if_neg c2] at e
          simp only [Option.some.injEq, Prod.mk.injEq] at e
          exact ⟨L4, by rw [← e.2]; exact i4⟩
/-- the [ ] of a text mean what the class has kept from nx on -/
def ICX (S U : sS) (E nx : Int) (OK : Int → Int → Prop) : List (Int × Int) → Prop
  | [] => True
  | x :: L => ICX S U E nx OK L ∧ INX S E x.1 x.2 (Xi U 274 (nx + L.length).toNat) (Xi U 275 (nx + L.length).toNat) ∧ OK (Xi U 274 (nx + L.length).toNat) (Xi U 275 (nx + L.length).toNat)
theorem icx_s {S U : sS} {E nx : Int} {OK : Int → Int → Prop} : ∀ (L3 L1 : List (Int × Int)), ICX S U E nx OK (L3 ++ L1) → ICX S U E nx OK L1
  | [], _, h => h
  | _ :: L3, L1, h => icx_s L3 L1 h.1
/-- what the class doesn't say: the words in [ ] -/
theorem syl_sk {U : sS} {no a nx : Int} : ∀ (n f : Nat) (i : Int), (∀ k : Int, i ≤ k → k < i + n → Xi U (txr U) (a + k).toNat ≠ 91 ∧ Xi U (txr U) (a + k).toNat ≠ 93) → Xi U (txr U) (a + (i + n)).toNat = 93 → syL U no a (f + 1 + n) i nx 1 = syL U no a f (i + n + 1) nx 0
  | 0, f, i, _, h => by
    rw [show i + ((0 : Nat) : Int) = i by omega] at h ⊢
    show syL U no a (f + 1) i nx 1 = _
    rw [syL, if_neg (by omega), if_pos h]
  | n + 1, f, i, hn, h => by
    have t := hn i (Int.le_refl _) (by omega)
    have ih := syl_sk (U := U) (no := no) (a := a) (nx := nx) n f (i + 1) (fun k k1 k2 => hn k (by omega) (by omega)) (by rw [show i + 1 + (n : Int) = i + ((n + 1 : Nat) : Int) by omega]; exact h)
    rw [show f + 1 + (n + 1) = (f + 1 + n) + 1 by omega, syL, if_neg t.1, if_neg t.2, if_neg (by omega), ih, show i + 1 + (n : Int) + 1 = i + ((n + 1 : Nat) : Int) + 1 by omega]
theorem ins_wt {U S : sS} {P o no nx : Int} {M : Nat} {L : List (Int × Int)} {OK : Int → Int → Prop} (h0 : 0 ≤ P) (br : brF (Xi S 906) P M = some (-1, L)) (yt : ∀ i : Int, 0 ≤ i → i < M → Xi U (txr U) (P + i).toNat = Xi S 906 (P + i).toNat) (ix : ICX S U (P + M) nx OK L) (n8 : 0 ≤ nx ∧ nx + L.length ≤ Xi U 246 8) (ok : ∀ t p : Int, OK t p → PCE S t p o (insL U (whU no t) p)) : ∀ (b d m : Nat) (L1 : List (Int × Int)), d ≤ b → m + d = M → brF (Xi S 906) P m = some (-1, L1) → ∀ f : Nat, d ≤ f → WTX S (P + M) o f (P + m) (syL U no P d m (nx + L1.length) 0)
  | b, 0, m, L1, _, hm, _, f, _ => by
    cases f with
    | zero => exact ⟨by omega, rfl⟩
    | succ f => exact Or.inl ⟨by omega, rfl⟩
  | 0, d + 1, m, L1, hb, _, _, _, _ => absurd hb (by omega)
  | b + 1, d + 1, m, L1, hb, hm, h1, f, hf => by
    obtain ⟨f, rfl⟩ : ∃ g, f = g + 1 := ⟨f - 1, by omega⟩
    have eb := yt m (by omega) (by omega)
    by_cases c : Xi S 906 (P + m).toNat = 91
    · have z : brF (Xi S 906) P (m + 1) = some (P + m, L1) := by rw [brF_1 h1, if_pos c, if_pos rfl]
      have pm : P + (m : Int) ≠ -1 := by omega
      obtain ⟨j, j1, j2, j3, j4, j5⟩ := br_cl d (m + 1) z pm ⟨L, by rw [show m + 1 + d = M by omega]; exact br⟩
      obtain ⟨L3, e3⟩ := br_sf j5 (M - (j + 1)) (-1) L (by rw [show j + 1 + (M - (j + 1)) = M by omega]; exact br)
      rw [e3] at ix
      obtain ⟨_, i2, i3⟩ := icx_s L3 _ ix
      have ll : L.length = L3.length + (L1.length + 1) := by rw [e3, List.length_append]; rfl
      have ih := ins_wt h0 br yt (by rw [e3]; exact ix) n8 ok b (M - (j + 1)) (j + 1) _ (by omega) (by omega) j5 f (by omega)
      have t1 : thI U (nx + L1.length) = Xi U 274 (nx + L1.length).toNat := by unfold thI; rw [if_pos (by omega)]
      have t2 : ppI U (nx + L1.length) = Xi U 275 (nx + L1.length).toNat := by unfold ppI; rw [if_pos (by omega)]
      have sk := syl_sk (U := U) (no := no) (a := P) (nx := nx + L1.length + 1) (j - (m + 1)) (M - (j + 1)) ((m : Int) + 1) (fun k k1 k2 => by
        have t := j4 k.toNat (by omega) (by omega)
        rw [show ((k.toNat : Nat) : Int) = k by omega] at t
        rw [yt k (by omega) (by omega)]; exact t) (by
        rw [yt _ (by omega) (by omega), show P + ((m : Int) + 1 + ((j - (m + 1) : Nat) : Int)) = P + j by omega]; exact j3)
      rw [show M - (j + 1) + 1 + (j - (m + 1)) = d by omega, show (m : Int) + 1 + ((j - (m + 1) : Nat) : Int) + 1 = ((j + 1 : Nat) : Int) by omega] at sk
      refine Or.inr (Or.inr ⟨by omega, c, P + j, _, _, _, syL U no P (M - (j + 1)) ((j + 1 : Nat) : Int) (nx + (((P + (m : Int), P + (j : Int)) :: L1).length : Int)) 0, i2, ok _ _ i3, ?_, ?_⟩)
      · rw [syL, if_pos (by rw [eb]; exact c), t1, t2, sk]
        rw [show nx + (((P + (m : Int), P + (j : Int)) :: L1).length : Int) = nx + L1.length + 1 by rw [List.length_cons]; omega]
      · rw [show P + (j : Int) + 1 = P + ((j + 1 : Nat) : Int) by omega]; exact ih
    · by_cases c2 : Xi S 906 (P + m).toNat = 93
      · exfalso
        have z : brF (Xi S 906) P (m + 1) = none := by rw [brF_1 h1, if_neg c, if_pos c2, if_pos rfl]
        have z2 := br_m z d
        rw [show m + 1 + d = M by omega, br] at z2
        exact absurd z2 (by simp)
      · have z : brF (Xi S 906) P (m + 1) = some (-1, L1) := by rw [brF_1 h1, if_neg c, if_neg c2]
        have ih := ins_wt h0 br yt ix n8 ok b d (m + 1) L1 (by omega) (by omega) z f (by omega)
        rw [show P + ((m + 1 : Nat) : Int) = P + m + 1 by omega, show ((m + 1 : Nat) : Int) = (m : Int) + 1 by omega] at ih
        refine Or.inr (Or.inl ⟨by omega, c, c2, _, ?_, ih⟩)
        rw [syL, if_neg (by rw [eb]; exact c), if_neg (by rw [eb]; exact c2), if_pos rfl, eb]
end
section
/-! SAY: what both say of a text whose words in [ ] mean the same -/
theorem cv_po {w : Int} (h : wdC w) : 0 < cv w := by
  have r := cv_rg h
  have z : cv 0 = 0 := by decide
  by_cases q : cv w = 0
  · have t := cv_inj (wd_cd h) (⟨by decide, by decide⟩ : cd7 0) (q.trans z.symm)
    have := h.1
    omega
  · omega
/-- words of objects and values have twelve letters at most -/
theorem nmwd_of {U S : sS} (a : RVO U S) : NMWD S := fun k hk hs => by
  have e15 := a.1.1.1
  obtain ⟨i, hi, e1, e2, e3, e4, e5, e6⟩ := a.1.2.2.1 k (by omega)
  have z : Xi S 916 k = 0 := Classical.byContradiction fun q => by
    obtain ⟨_, x | ⟨x, _⟩⟩ := e6.1 q <;> omega
  unfold WDX
  rw [show ((k : Nat) : Int).toNat = k by omega]
  refine ⟨fun j hj => ?_, z⟩
  have w : wdC (Xj U 2 (3 * i + j)) := ⟨(e4 j (by omega)).2.1 hj, e6.2 z j (by omega)⟩
  rw [e5 z j hj]
  exact ⟨cv_po w, (cv_rg w).2⟩
theorem hs_bl {S : sS} {o p : Int} (hB : ABV S) (h : hsR S o p ≠ 0) : ∀ (n : Nat) (k : Int), k ≤ n → k ≤ 15 → blR S k o ≠ 0 → hsR S k p ≠ 0
  | n, k, h1, h2, b => by
    by_cases q : k < 0
    · exact absurd (blR_n q) b
    · by_cases e : k = o
      · rw [e]; exact h
      · by_cases c : Xi S 929 (12 * k + p).toNat = 0
        · rw [hsR_s hB (by omega) h2 c]
          rw [blR_s hB (by omega) h2 e] at b
          have a := hB k.toNat (by omega)
          cases n with
          | zero =>
            exact absurd (blR_n (by omega)) b
          | succ n => exact hs_bl hB h n _ (by omega) (by omega) b
        · rw [hsR_e (by omega) c]; decide
theorem nml_s {U S : sS} {so ix : Int} (a : RVO U S) (hs : so = 4 ∨ so = 6) : NML S so ix (nmQ U (sg7 so) ix) := by
  by_cases h : ¬ lxH S so ix
  · exact Or.inr ⟨h, nmq_0 a (by omega) h⟩
  obtain ⟨k, k1, k2, k3⟩ := Classical.not_not.mp h
  refine Or.inl ⟨k, k1, k2, k3, fun l a1 a2 a3 => voc_us a.1 a.2.1 l k a1 k1 (a2.trans k2.symm) (a3.trans k3.symm), ?_⟩
  rw [nm_s a.1 a.2.1 (nmwd_of a k k1 (by omega)) k1, k2, k3]
theorem prp_s {U S : sS} {o p : Int} (a : RLB U S) (ho : 0 ≤ o ∧ o < Xi U 5 2) (hp : 0 ≤ p ∧ p < Xi U 5 5) : PRP S o p (insL U o p) := by
  obtain ⟨n1, n2⟩ := num_r a.1 ho hp
  unfold PRP insL
  rw [if_neg (by omega), n2]
  refine ⟨fun q0 => ?_, fun q1 => ?_, fun q0 q1 => ⟨fun z => ?_, fun z => ?_⟩⟩
  · rw [if_neg (by omega), if_pos q0, n1.2 (by omega)]
  · rw [if_pos q1, txL_r (n1.1 q1)]
  · rw [if_neg q1, if_neg q0, n1.2 q1, if_pos z]
  · rw [if_neg q1, if_neg q0, n1.2 q1, if_neg z]; exact nml_s a.1.1 (Or.inr rfl)
/-- a thing (and its property) in [ ] that a rule's text may speak of -/
def OKIN (S : sS) (r : Nat) (t p : Int) : Prop := (t = -2 → nM S r) ∧ (t ≠ -2 → 0 ≤ t ∧ t < Xi S 904 19) ∧ -1 ≤ p ∧ (p ≠ -1 → p < Xi S 904 32 ∧ hsR S (if t = -2 then nkR S r else Xi S 918 t.toNat) p ≠ 0)
theorem ru_a8 {U S : sS} {r : Nat} (a : RLB U S) (hr : (r : Int) < Xi U 246 2) : Xi S 979 r < Xi U 5 8 := by
  have u1 := (a.2.2.2.2.2 r hr).2.1
  have c8 := a.1.2.2.1.2.2.2.2.2.2.2.2
  rcases u1 with ⟨_, _, w1, _⟩ | ⟨_, aa, oo, kk, nn, _, ⟨w1, _⟩, ⟨q1, _⟩, _⟩
  · omega
  · omega
theorem pce_s {U S : sS} {r : Nat} {no o t p : Int} (a : RLB U S) (hB : ABV S) (hr : (r : Int) < Xi U 246 2) (hn : NNR U (Xi S 979 r) no o) (nk : NKO S r o) (k : OKIN S r t p) (h18 : ∀ j : Nat, Xi S 918 j ≤ 15) : PCE S t p o (insL U (whU no t) p) := by
  obtain ⟨k1, k2, k3, k4⟩ := k
  have c2 := a.1.2.2.1.2.2.1
  have c5 := a.1.2.2.1.2.2.2.2.2.1
  have w : whU no t = whU o t ∧ 0 ≤ whU o t ∧ whU o t < Xi U 5 2 := by
    unfold whU
    by_cases q : t = -2
    · rw [if_pos q, if_pos q]
      have x := nnr_n a.1.2.2.2.2.2.2.2.2.1 (ru_a8 a hr) rfl hn (k1 q)
      omega
    · rw [if_neg q, if_neg q]
      have x := k2 q
      omega
  rw [w.1]
  refine ⟨by omega, fun q => ?_, fun q => ⟨by have := k4 q; omega, ?_, prp_s a w.2 (by have := k4 q; omega)⟩⟩
  · unfold insL
    rw [if_pos q]
    exact nml_s a.1.1 (Or.inl rfl)
  · have k5 := (k4 q).2
    by_cases e : t = -2
    · rw [if_pos e] at k5
      have b := nk (k1 e)
      have e2 : whU o t = o := by unfold whU; rw [if_pos e]
      rw [e2]
      exact hs_bl hB k5 15 _ (h18 _) (h18 _) b
    · rw [if_neg e] at k5
      have e2 : whU o t = t := by unfold whU; rw [if_neg e]
      rw [e2]; exact k5
/-- the words in [ ] of a rule's k-th phrase mean what the class has kept -/
def IXS1 (U S : sS) (r k : Nat) : Prop := ∀ q : Nat, (q : Int) = Xi S 977 ((Xi S 986 r).toNat + k) → (0 ≤ Xi S 973 q ∧ 0 ≤ Xi S 974 q ∧ Xi S 973 q + Xi S 974 q ≤ 5000) ∧ 0 ≤ Xi U (276 + clP U S r k) 3 ∧ Xi U (276 + clP U S r k) 4 = Xi S 973 q ∧ Xi U (276 + clP U S r k) 5 = Xi S 974 q ∧ (∀ i : Int, 0 ≤ i → i < Xi S 974 q → Xi U (txr U) (Xi S 973 q + i).toNat = Xi S 906 (Xi S 973 q + i).toNat) ∧ ∃ L : List (Int × Int), brF (Xi S 906) (Xi S 973 q) (Xi S 974 q).toNat = some (-1, L) ∧ Xi U (276 + clP U S r k) 3 + L.length ≤ Xi U 246 8 ∧ ICX S U (Xi S 973 q + Xi S 974 q) (Xi U (276 + clP U S r k) 3) (OKIN S r) L
def IXS (U S : sS) : Prop := ∀ r k : Nat, (r : Int) < Xi U 246 2 → (k : Int) < Xi S 987 r → Xi S 976 ((Xi S 986 r).toNat + k) = 0 → IXS1 U S r k
theorem inw_s {U S : sS} (a : RLB U S) (hB : ABV S) (h18 : ∀ j : Nat, Xi S 918 j ≤ 15) (x : IXS U S) : INW0 U S := fun r k no o hr hk h6 hn nk q hq => by
  obtain ⟨⟨p0, m0, e5⟩, n0, c4, c5, yt, L, br, nl, ix⟩ := x r k hr hk h6 q hq
  have em : (((Xi S 974 q).toNat : Nat) : Int) = Xi S 974 q := by omega
  have t := ins_wt (o := o) (no := no) (M := (Xi S 974 q).toNat) p0 br (fun i h0 h1 => yt i h0 (by omega)) (by rw [em]; exact ix) ⟨n0, nl⟩ (fun t p k => pce_s a hB hr hn nk k h18) (Xi S 974 q).toNat (Xi S 974 q).toNat 0 [] (Nat.le_refl _) (by omega) rfl 5001 (by omega)
  rw [em, show Xi S 973 q + ((0 : Nat) : Int) = Xi S 973 q by omega] at t
  unfold syA
  rw [c4, c5, show (Xi S 974 q - 0).toNat = (Xi S 974 q).toNat by omega]
  have e0 : Xi U (276 + clP U S r k) 3 + (([] : List (Int × Int)).length : Int) = Xi U (276 + clP U S r k) 3 := by simp
  rw [e0] at t
  exact t
end
section
/-! words in [ ] mean the same when more is told -/
theorem lx_u {U S : sS} {a b c n : Int} {k l : Nat} (v : RVO U S) (hn : 1 ≤ n ∧ n ≤ 3) (hk : (k : Int) < Xi S 904 15) (hl : (l : Int) < Xi S 904 15) (x : lxE S a b c n k) (y : lxE S a b c n l) : k = l := by
  obtain ⟨hv, us, hC, hx, l3⟩ := v
  have e15 := hv.1.1
  obtain ⟨i, i1, i2⟩ := hv.2.2.1 k (by omega)
  obtain ⟨j, j1, j2⟩ := hv.2.2.1 l (by omega)
  have ek : ∀ (m : Nat) (t : Int), (3 * (m : Int)).toNat = 3 * m ∧ (3 * (m : Int) + 1).toNat = 3 * m + 1 ∧ (3 * (m : Int) + 2).toNat = 3 * m + 2 ∧ ((m : Nat) : Int).toNat = m := fun m _ => by omega
  obtain ⟨x1, x2, x3, x4, x5⟩ := x
  obtain ⟨y1, y2, y3, y4, y5⟩ := y
  rw [(ek k 0).2.2.2] at x1 x5
  rw [(ek l 0).2.2.2] at y1 y5
  rw [(ek k 0).1] at x2
  rw [(ek l 0).1] at y2
  rw [(ek k 0).2.1] at x3
  rw [(ek l 0).2.1] at y3
  rw [(ek k 0).2.2.1] at x4
  rw [(ek l 0).2.2.1] at y4
  obtain ⟨p1, p2, p3, p4, p5, _⟩ := i2
  obtain ⟨q1, q2, q3, q4, q5, _⟩ := j2
  rw [x1] at p4 p5
  rw [y1] at q4 q5
  have ev : ∀ t : Nat, t < 3 → Xj U 2 (3 * i + t) = Xj U 2 (3 * j + t) := fun t ht => by
    by_cases r : (t : Int) < n
    · refine cv_inj (p4 t ht).1 (q4 t ht).1 ?_
      rw [← p5 x5 t r, ← q5 y5 t r]
      have z : t = 0 ∨ t = 1 ∨ t = 2 := by omega
      rcases z with z | z | z <;> subst z
      · rw [Nat.add_zero, Nat.add_zero, x2, y2]
      · have := x3; have := y3; omega
      · have := x4; have := y4; omega
    · rw [(p4 t ht).2.2 (by omega), (q4 t ht).2.2 (by omega)]
  have ij := hv.2.2.2 i j i1 j1 ev
  subst ij
  exact voc_us hv us k l hk hl (sg_inj (hx k hk).1 (hx l hl).1 (by rw [p1, q1])) (by rw [p2, q2])
theorem fd_g {U S T : sS} {a b c n : Int} (v : RVO U T) (g : LXG S T) (hn : 1 ≤ n ∧ n ≤ 3) (h : fdR S a b c n (Xi S 904 15).toNat ≠ -1) (hs : Xi S 914 (fdR S a b c n (Xi S 904 15).toNat).toNat = 4 ∨ Xi S 914 (fdR S a b c n (Xi S 904 15).toNat).toNat = 7) : fdR T a b c n (Xi T 904 15).toNat = fdR S a b c n (Xi S 904 15).toNat := by
  obtain ⟨k, k1, k2, k3⟩ := fdR_is _ h
  rw [k1] at hs ⊢
  rw [show ((k : Nat) : Int).toNat = k by omega] at hs
  obtain ⟨g1, g2⟩ := g
  obtain ⟨a1, a2, a3, a4, a5⟩ := g2 k (by omega) hs
  have e3 : ∀ t : Nat, t < 3 → Xj T 913 (3 * (k : Int) + t).toNat = Xj S 913 (3 * (k : Int) + t).toNat := fun t ht => by
    rw [show (3 * (k : Int) + t).toNat = 3 * k + t by omega]; exact a5 t ht
  have lk : lxE T a b c n k := by
    obtain ⟨x1, x2, x3, x4, x5⟩ := k3
    have z0 := e3 0 (by omega)
    have z1 := e3 1 (by omega)
    have z2 := e3 2 (by omega)
    rw [show (3 * (k : Int) + ((0 : Nat) : Int)) = 3 * (k : Int) by omega] at z0
    refine ⟨?_, ?_, ?_, ?_, ?_⟩
    · rw [show ((k : Nat) : Int).toNat = k by omega] at x1 ⊢; rw [a3]; exact x1
    · rw [z0]; exact x2
    · have w : Xj T 913 (3 * (k : Int) + 1).toNat = Xj S 913 (3 * (k : Int) + 1).toNat := z1
      rw [w]; exact x3
    · have w : Xj T 913 (3 * (k : Int) + 2).toNat = Xj S 913 (3 * (k : Int) + 2).toNat := z2
      rw [w]; exact x4
    · rw [show ((k : Nat) : Int).toNat = k by omega] at x5 ⊢; rw [a4]; exact x5
  have nn := fdR_nn lk (Xi T 904 15).toNat (by omega)
  obtain ⟨l, l1, l2, l3⟩ := fdR_is _ nn
  rw [l1, lx_u v hn (by omega) (by omega) l3 lk]
section
variable {T T1 U1 : sS} {t p : Int}
/-- the same words, in a vocabulary that has grown -/
def IGW (T T1 U1 : sS) : Prop := Xi T1 904 160 = Xi T 904 160 ∧ (∀ j : Nat, Xj T1 994 j = Xj T 994 j) ∧ (∀ j : Nat, Xj T1 911 j = Xj T 911 j) ∧ LXG T T1 ∧ RVO U1 T1
theorem ik_g (h : IGW T T1 U1) (i : Int) : ikR T1 i = ikR T i := by
  unfold ikR kyr
  rw [h.2.1, show Xj T1 911 = Xj T 911 from funext h.2.2.1]
theorem ofF_g (h : IGW T T1 U1) : ∀ (m : Nat) (i : Int), ofF T1 m i = ofF T m i
  | 0, _ => rfl
  | m + 1, i => by rw [ofF, ofF, h.1, ik_g h, ofF_g h m]
theorem fi_g (h : IGW T T1 U1) {a n so : Int} (e : fiR T a n ≠ -1) (hs : so = 4 ∨ so = 7) (s : Xi T 914 (fiR T a n).toNat = so) : fiR T1 a n = fiR T a n ∧ Xi T1 914 (fiR T a n).toNat = so ∧ Xi T1 915 (fiR T a n).toNat = Xi T 915 (fiR T a n).toNat := by
  by_cases q : frK T a n ∧ 1 ≤ n ∧ n ≤ 3
  · have q1 : frK T1 a n := fun j j0 j1 => (ik_g h _).trans (q.1 j j0 j1)
    have e1 := fiR_y q.1 q.2 rfl rfl rfl
    rw [e1] at e s ⊢
    have f := fd_g h.2.2.2.2 h.2.2.2.1 q.2 e (by omega)
    obtain ⟨k, k1, k2, _⟩ := fdR_is _ e
    rw [fiR_y q1 q.2 rfl rfl rfl, h.2.1, h.2.1, h.2.1]
    refine ⟨f, ?_⟩
    rw [k1, show ((k : Nat) : Int).toNat = k by omega] at s ⊢
    obtain ⟨a1, a2, _⟩ := h.2.2.2.1.2 k (by omega) (by omega)
    exact ⟨a1.trans s, a2⟩
  · exact absurd (fiR_n q) e
theorem itW_g (h : IGW T T1 U1) {a : Int} (e : itW T a ≠ -9) : itW T1 a = itW T a := by
  unfold itW at e ⊢
  rw [h.1, ik_g h, ik_g h]
  by_cases c : 0 < Xi T 904 160 - a ∧ ikR T (Xi T 904 160 - 1) = 153
  · rw [if_pos c, if_pos c]
  · rw [if_neg c] at e ⊢
    rw [if_neg c]
    generalize (if 0 < Xi T 904 160 - a ∧ 100 ≤ ikR T a ∧ ikR T a ≤ 103 then a + 1 else a) = f at e ⊢
    by_cases d : fiR T f (Xi T 904 160 - f) ≠ -1 ∧ Xi T 914 (fiR T f (Xi T 904 160 - f)).toNat = 4
    · obtain ⟨f1, f2, f3⟩ := fi_g h d.1 (Or.inl rfl) d.2
      rw [f1, if_pos ⟨d.1, f2⟩, if_pos d, f3]
    · rw [if_neg d] at e
      exact absurd rfl e
theorem int_g (h : IGW T T1 U1) (i : INT T t p) : INT T1 t p := by
  obtain ⟨i1, i2, i3⟩ := i
  have eo : ofR T1 = ofR T := ofF_g h 65 1
  have io : isO T1 ↔ isO T := by unfold isO; rw [h.1, eo, ik_g h, ik_g h]
  refine ⟨fun o => ?_, fun o => ?_, i3⟩
  · obtain ⟨x, y, z⟩ := i1 (io.1 o)
    refine ⟨?_, ?_, z⟩
    · rw [eo, itW_g h (by rw [x]; exact i3)]; exact x
    · unfold ipR at y ⊢
      rw [eo]
      by_cases d : fiR T 1 (ofR T - 1) ≠ -1 ∧ Xi T 914 (fiR T 1 (ofR T - 1)).toNat = 7
      · obtain ⟨f1, f2, f3⟩ := fi_g h d.1 (Or.inr rfl) d.2
        rw [if_pos d] at y
        rw [f1, if_pos ⟨d.1, f2⟩, f3]; exact y
      · rw [if_neg d] at y
        exact absurd y.symm z
  · obtain ⟨x, y⟩ := i2 (fun q => o (io.2 q))
    exact ⟨by rw [itW_g h (by rw [x]; exact i3)]; exact x, y⟩
end
/-- a state with other words at hand -/
def wWS (X W : sS) : sS := (fun c j => if c = 904 ∧ j = 160 then W.1 904 160 else X.1 c j, fun c j => if c = 994 then W.2.1 994 j else X.2.1 c j, X.2.2)
theorem wws_i {X W : sS} {c j : Nat} (h : ¬ (c = 904 ∧ j = 160)) : Xi (wWS X W) c j = Xi X c j := by unfold Xi wWS; simp only [h, if_false]
theorem wws_j {X W : sS} {c j : Nat} (h : c ≠ 994) : Xj (wWS X W) c j = Xj X c j := by unfold Xj wWS; simp only [h, if_false]
theorem wws_160 {X W : sS} : Xi (wWS X W) 904 160 = Xi W 904 160 := by unfold Xi wWS; simp
theorem wws_994 {X W : sS} {j : Nat} : Xj (wWS X W) 994 j = Xj W 994 j := by unfold Xj wWS; simp
theorem wws_k {X W : sS} {ks fs : List (Nat × Nat)} (a : inK ks 904 = false) (b : inK ks 994 = false) (f : ∀ x ∈ fs, ¬ (x.1 = 904 ∧ x.2 = 160) ∧ x.1 ≠ 994) : KEP ks fs X (wWS X W) := by
  refine ⟨fun c j q => ?_, fun x q => ?_⟩
  · have n1 : ¬ (c = 904 ∧ j = 160) := fun z => by rw [z.1, a] at q; exact absurd q (by decide)
    have n2 : c ≠ 994 := fun z => by rw [z, b] at q; exact absurd q (by decide)
    unfold wWS
    simp only [n1, n2, if_false]
    exact ⟨trivial, trivial, trivial⟩
  · obtain ⟨n1, n2⟩ := f x q
    unfold wWS
    simp only [n1, n2, if_false]
    exact ⟨trivial, trivial, trivial⟩
theorem inx_g {S S1 U1 : sS} {E o q t p : Int} (g : LXG S S1) (v : RVO U1 S1) (k : KEP [(906, 907), (911, 912)] [] S S1) (h : INX S E o q t p) : INX S1 E o q t p := by
  obtain ⟨T, L, k1, w1, q1, ⟨⟨r1, r3⟩, r2⟩, i⟩ := h
  have eb : Xi S1 906 = Xi S 906 := funext (fun j => k.x 906 rfl j)
  have kW : KEP [(906, 907), (911, 917)] [(904, 15)] S1 (wWS S1 T) := wws_k rfl rfl (by simp)
  refine ⟨wWS S1 T, L, kW, by rw [eb]; exact w1, by rw [eb]; exact q1, ⟨⟨by rw [wws_160]; exact r1, fun j hj => ?_⟩, r2⟩, int_g (T := T) (U1 := U1) ⟨wws_160, fun j => wws_994, fun j => ?_, ?_, ?_⟩ i⟩
  · rw [wws_994, r3 j hj]
    unfold icr
    rw [eb]
  · rw [wws_j (by omega), k.j 911 rfl, k1.j 911 rfl]
  · have g2 : LXG T S := by
      have k2 : KEP [(912, 917)] [(904, 15)] S T := k1.le rfl (by decide)
      exact ⟨by have := k2.f 904 15 (by decide); omega, fun i _ _ => ⟨(k2.x 914 rfl i).symm, (k2.x 915 rfl i).symm, (k2.x 912 rfl i).symm, (k2.x 916 rfl i).symm, fun t _ => (k2.j 913 rfl _).symm⟩⟩
    exact (g2.tr g).tr (lxg_k (kW.le rfl (by decide)))
  · exact v.k KEP.rf (kW.le rfl (by decide))
theorem hs_g {S T : sS} {p : Int} (a : ABV S) (b : ABV T) (hp : 0 ≤ p ∧ p < 12) (g : KDG S T) : ∀ (n : Nat) (k : Int), k ≤ n → k ≤ 15 → k < Xi S 904 16 → hsR S k p ≠ 0 → hsR T k p ≠ 0
  | n, k, h1, h2, h3, h => by
    by_cases q : k < 0
    · exact absurd (hsR_n q) h
    · obtain ⟨x1, x2⟩ := g.2 k.toNat (by omega)
      rw [show ((k.toNat : Nat) : Int) = k by omega] at x2
      by_cases c : Xi T 929 (12 * k + p).toNat = 0
      · have c' : Xi S 929 (12 * k + p).toNat = 0 := Classical.byContradiction fun z => x2 p hp.1 hp.2 z c
        rw [hsR_s b (by omega) h2 c, x1]
        rw [hsR_s a (by omega) h2 c'] at h
        have ak := a k.toNat (by omega)
        cases n with
        | zero => exact absurd (hsR_n (by omega)) h
        | succ n => exact hs_g a b hp g n _ (by omega) (by omega) (by omega) h
      · rw [hsR_e (by omega) c]; decide

/-! the class's inserts mean to the reference what they mean to the class: it stays -/
def rl0 (U : sS) (r : Nat) : Nat := (Xi U (248 + r) 7 + Xi U (248 + r) 4 + Xi U (248 + r) 5).toNat
def nMU (U : sS) (r : Nat) : Prop := 0 ≤ Xi U (248 + r) 1 ∧ 0 ≤ Xi U 19 (Xi U (248 + r) 1).toNat
def nkU (U : sS) (r : Nat) : Int := if Xi U (248 + r) 2 ≠ -1 then Xi U 21 (Xi U (248 + r) 2).toNat else if Xi U (248 + r) 3 ≠ -1 then Xi U (248 + r) 3 else Xi U 19 (Xi U (248 + r) 1).toNat
def OKC (U S : sS) (r : Nat) (t p : Int) : Prop := (t = -2 → nMU U r) ∧ (t ≠ -2 → 0 ≤ t ∧ t < Xi S 904 19) ∧ -1 ≤ p ∧ (p ≠ -1 → p < Xi S 904 32 ∧ hsR S (if t = -2 then nkU U r else Xi S 918 t.toNat) p ≠ 0)
def IXC1 (U S : sS) (r c : Nat) : Prop := (0 ≤ Xi U (276 + c) 4 ∧ 0 ≤ Xi U (276 + c) 5 ∧ Xi U (276 + c) 4 + Xi U (276 + c) 5 ≤ 5000) ∧ 0 ≤ Xi U (276 + c) 3 ∧ (∀ i : Int, 0 ≤ i → i < Xi U (276 + c) 5 → Xi U (txr U) (Xi U (276 + c) 4 + i).toNat = Xi S 906 (Xi U (276 + c) 4 + i).toNat) ∧ ∃ L : List (Int × Int), brF (Xi S 906) (Xi U (276 + c) 4) (Xi U (276 + c) 5).toNat = some (-1, L) ∧ Xi U (276 + c) 3 + L.length ≤ Xi U 246 8 ∧ ICX S U (Xi U (276 + c) 4 + Xi U (276 + c) 5) (Xi U (276 + c) 3) (OKC U S r) L
def IXC (U S : sS) : Prop := ∀ r c : Nat, (r : Int) < Xi U 246 2 → rl0 U r ≤ c → (c : Int) < rl0 U r + Xi U (248 + r) 6 → Xi U (276 + c) 0 = 7 → IXC1 U S r c
theorem icx_g {S S1 U U1 : sS} {E nx N : Int} {OK OK1 : Int → Int → Prop} (f : ∀ o q t p : Int, INX S E o q t p → INX S1 E o q t p) (ok : ∀ t p : Int, OK t p → OK1 t p) (gi : ∀ j : Nat, (j : Int) < N → Xi U1 274 j = Xi U 274 j ∧ Xi U1 275 j = Xi U 275 j) (h0 : 0 ≤ nx) : ∀ L : List (Int × Int), nx + L.length ≤ N → ICX S U E nx OK L → ICX S1 U1 E nx OK1 L
  | [], _, _ => trivial
  | x :: L, hl, ⟨h1, h2, h3⟩ => by
    rw [List.length_cons] at hl
    have e := gi (nx + L.length).toNat (by omega)
    refine ⟨icx_g f ok gi h0 L (by omega) h1, ?_, ?_⟩
    · rw [e.1, e.2]; exact f _ _ _ _ h2
    · rw [e.1, e.2]; exact ok _ _ h3
theorem kdn_g {S S1 : sS} {p k : Int} (bS : ABV S) (b1 : ABV S1) (hp : 0 ≤ p ∧ p < 12) (g : KDG S S1) (hk : k < Xi S 904 16) (h16 : Xi S 904 16 ≤ 16) (h : hsR S k p ≠ 0) : hsR S1 k p ≠ 0 := hs_g bS b1 hp g 15 k (by omega) (by omega) hk h
theorem kdo_g {S S1 : sS} {p : Int} {o : Nat} (bS : ABV S) (b1 : ABV S1) (hp : 0 ≤ p ∧ p < 12) (vg : VG S S1) (ho : (o : Int) < Xi S 904 19) (hk : Xi S 918 o < Xi S 904 16) (h16 : Xi S 904 16 ≤ 16) (h8 : Xi S1 918 o ≤ 15) (h : hsR S (Xi S 918 o) p ≠ 0) : hsR S1 (Xi S1 918 o) p ≠ 0 := by
  have x := kdn_g bS b1 hp vg.2.1 hk h16 h
  rcases vg.2.2.2 o ho with e | e
  · rw [e]; exact x
  · exact hs_bl b1 x 15 _ h8 h8 e
theorem okc_g {U U1 S S1 : sS} {r : Nat} {t p : Int} (a : RLA U S) (a1 : RLW U1 S1) (hr : (r : Int) < Xi U 246 2) (gr : GR S1 S) (vg : VG S S1) (rr : ∀ j, Xi U1 (248 + r) j = Xi U (248 + r) j) (bS : ABV S) (b1 : ABV S1) (k : OKC U S r t p) : OKC U1 S1 r t p := by
  obtain ⟨k1, k2, k3, k4⟩ := k
  have ct := a.1.2.2.1
  have h16 : Xi S 904 16 ≤ 16 := by have := ct.1; omega
  have h12 := ct.2.2.2.2.2.1
  have c19 := gr.1.2.2.1
  have c32 := gr.1.2.2.2.2.2.1
  have ob := a.1.2.2.2.2.2.2.2.2.2.1.1
  have ob1 := a1.2.2.2.2.2.2.2.2.2.1.1
  have va := a.1.2.2.2.2.2.2.2.2.1.2
  have e8 : ∀ o : Nat, (o : Int) < Xi S 904 19 → Xi S1 918 o ≤ 15 := fun o ho => by
    have x := ob1.2 o (by have := ob1.1; omega)
    have := a1.2.2.1.1
    omega
  have hd := (a.2.2.2.2.2 r hr).2.1
  rcases hd with ⟨_, ⟨d1, _⟩, _⟩ | ⟨_, aa, oo, kk, nn, ⟨d1, d2, d3, _⟩, _, ⟨r1, r2, r3, _⟩, ⟨r4, _⟩, _⟩
  · have nt : t ≠ -2 := fun e => by have := (k1 e).1; omega
    refine ⟨fun e => absurd e nt, fun e => by have := k2 e; omega, k3, fun e => ?_⟩
    obtain ⟨x1, x2⟩ := k4 e
    rw [if_neg nt] at x2 ⊢
    have kt := k2 nt
    have ot := ob.2 t.toNat (by have := ob.1; omega)
    exact ⟨by omega, kdo_g bS b1 (by omega) vg (by omega) (by have := ct.1; omega) h16 (e8 _ (by omega)) x2⟩
  · have e19 : Xi U1 19 aa.toNat = Xi U 19 aa.toNat := gr_19 a.1 a1 gr aa.toNat (by omega)
    refine ⟨fun e => ?_, fun e => by have := k2 e; omega, k3, fun e => ?_⟩
    · have x := k1 e
      unfold nMU at x ⊢
      rw [rr, d1, e19]
      rw [d1] at x
      exact x
    · obtain ⟨x1, x2⟩ := k4 e
      refine ⟨by omega, ?_⟩
      by_cases nt : t = -2
      · rw [if_pos nt] at x2 ⊢
        unfold nkU at x2 ⊢
        rw [rr, rr, rr, d1, d2, d3, e19]
        rw [d1, d2, d3] at x2
        by_cases q : oo = -1
        · rw [if_neg (fun z => z q)] at x2 ⊢
          by_cases q2 : kk = -1
          · rw [if_neg (fun z => z q2)] at x2 ⊢
            have v := va aa.toNat (by omega)
            exact kdn_g bS b1 (by omega) vg.2.1 (by have := ct.1; omega) h16 x2
          · rw [if_pos q2] at x2 ⊢
            exact kdn_g bS b1 (by omega) vg.2.1 (by have := ct.1; omega) h16 x2
        · rw [if_pos q] at x2 ⊢
          have ot := ob.2 oo.toNat (by omega)
          rw [ot.1] at x2
          rw [(ob1.2 oo.toNat (by have := ob1.1; have := ob.1; omega)).1]
          have := ob.1
          exact kdo_g bS b1 (by omega) vg (by omega) (by have := ct.1; omega) h16 (e8 _ (by omega)) x2
      · rw [if_neg nt] at x2 ⊢
        have kt := k2 nt
        have ot := ob.2 t.toNat (by have := ob.1; omega)
        exact kdo_g bS b1 (by omega) vg (by omega) (by have := ct.1; omega) h16 (e8 _ (by omega)) x2
theorem ixc_g {U U1 S S1 : sS} (x : IXC U S) (a : RLA U S) (a1 : RLW U1 S1) (rl : RUL U) (c2 : ∀ r j : Nat, (r : Int) < Xi U 246 2 → Xi U1 (248 + r) j = Xi U (248 + r) j) (cc : ∀ c j : Nat, (c : Int) < Xi U 246 5 → c < 600 → Xi U1 (276 + c) j = Xi U (276 + c) j) (gi : Xi U 246 8 ≤ Xi U1 246 8 ∧ ∀ j : Nat, (j : Int) < Xi U 246 8 → Xi U1 274 j = Xi U 274 j ∧ Xi U1 275 j = Xi U 275 j) (k : KEP [(906, 907), (911, 912)] [] S S1) (txs : ∀ j, Xi U1 (txr U1) j = Xi U (txr U) j) (gr : GR S1 S) (vg : VG S S1) (bS : ABV S) (b1 : ABV S1) : ∀ r c : Nat, (r : Int) < Xi U 246 2 → rl0 U1 r ≤ c → (c : Int) < rl0 U1 r + Xi U1 (248 + r) 6 → Xi U1 (276 + c) 0 = 7 → IXC1 U1 S1 r c := fun r c hr h1 h2 h3 => by
  have rr : ∀ j, Xi U1 (248 + r) j = Xi U (248 + r) j := fun j => c2 r j hr
  have e0 : rl0 U1 r = rl0 U r := by unfold rl0; rw [rr, rr, rr]
  rw [e0] at h1 h2
  rw [rr] at h2
  obtain ⟨⟨u1, u2, u3, _⟩, _⟩ := rl r hr
  have ru := (a.2.2.2.2.2 r hr)
  have u4 := ru.2.2.2.2.1
  have u5 := ru.2.2.1
  have hc : (c : Int) < Xi U 246 5 ∧ c < 600 := by unfold rl0 at h1 h2; omega
  have ce : ∀ j, Xi U1 (276 + c) j = Xi U (276 + c) j := fun j => cc c j hc.1 hc.2
  rw [ce] at h3
  obtain ⟨y1, y2, y3, L, y4, y5, y6⟩ := x r c hr h1 h2 h3
  have eb : Xi S1 906 = Xi S 906 := funext (fun j => k.x 906 rfl j)
  unfold IXC1
  rw [ce, ce, ce, eb]
  refine ⟨y1, y2, fun i i0 i1 => by rw [txs]; exact y3 i i0 i1, L, y4, by omega, ?_⟩
  exact icx_g (fun o q t p z => inx_g vg.1 a1.1 k z) (fun t p z => okc_g a a1 hr gr vg rr bS b1 z) gi.2 y2 L y5 y6
/-- what a turn asks of them -/
theorem okc_in {U S : sS} {r : Nat} {t p : Int} (a : RLB U S) (hr : (r : Int) < Xi U 246 2) (k : OKC U S r t p) : OKIN S r t p := by
  obtain ⟨k1, k2, k3, k4⟩ := k
  have va := a.1.2.2.2.2.2.2.2.2.1.2
  have ob := a.1.2.2.2.2.2.2.2.2.2.1.1
  have hd := (a.2.2.2.2.2 r hr).2.1
  rcases hd with ⟨_, ⟨d1, _⟩, _⟩ | ⟨_, aa, oo, kk, nn, ⟨d1, d2, d3, _⟩, ⟨s1, s2, s3, _⟩, ⟨r1, r2, r3, _⟩, ⟨r4, _⟩, _⟩
  · have nt : t ≠ -2 := fun e => by have := (k1 e).1; omega
    refine ⟨fun e => absurd e nt, k2, k3, fun e => ?_⟩
    obtain ⟨x1, x2⟩ := k4 e
    rw [if_neg nt] at x2 ⊢
    exact ⟨x1, x2⟩
  · have v := va aa.toNat (by omega)
    refine ⟨fun e => ?_, k2, k3, fun e => ?_⟩
    · have x := k1 e
      unfold nMU at x
      rw [d1] at x
      unfold nM
      rw [s1, ← v.1]; exact x
    · obtain ⟨x1, x2⟩ := k4 e
      refine ⟨x1, ?_⟩
      by_cases nt : t = -2
      · rw [if_pos nt] at x2 ⊢
        have en : nkR S r = nkU U r := by
          unfold nkR nkU
          rw [d1, d2, d3, s1, s2, s3, v.1]
          by_cases q : oo = -1
          · have nq : ¬ (oo ≠ -1) := fun z => z q
            rw [if_neg nq, if_neg nq]
          · rw [if_pos q, if_pos q, (ob.2 oo.toNat (by omega)).1]
        rw [en]; exact x2
      · rw [if_neg nt] at x2 ⊢
        exact x2
theorem ixs_of {U S : sS} (a : RLB U S) (x : IXC U S) : IXS U S := fun r k hr hk h6 q hq => by
  obtain ⟨fm, n, w, h, t, g, m, c, p1, p2⟩ := rph_q a hr hk
  have ru := a.2.2.2.2.2 r hr
  have u5 := ru.2.2.1
  have u6 := ru.2.2.2.1
  have u4 := ru.2.2.2.2.1
  have eq : q = (Xi S 984 r + Xi S 985 r).toNat + k := by omega
  subst eq
  have f7 : fm = 7 ∧ Xi S 973 ((Xi S 984 r + Xi S 985 r).toNat + k) = t ∧ Xi S 974 ((Xi S 984 r + Xi S 985 r).toNat + k) = g := by
    rcases p2 with ⟨z, _⟩ | z | ⟨z, _⟩ | ⟨z, _⟩ | ⟨z, _⟩ | ⟨z, _⟩
    · omega
    · exact z.2
    all_goals omega
  obtain ⟨c0, c1, _, c3, c4, c5, _⟩ := id c
  have e0 : clP U S r k = rl0 U r + k := by unfold clP rl0; rw [u5.1]
  obtain ⟨y1, y2, y3, L, y4, y5, y6⟩ := x r (clP U S r k) hr (by omega) (by omega) (by rw [c0]; exact f7.1)
  rw [f7.2.1, f7.2.2, ← c4, ← c5]
  exact ⟨y1, y2, rfl, rfl, y3, L, y4, y5, icx_g (fun _ _ _ _ z => z) (fun t p z => okc_in a hr z) (fun j _ => ⟨rfl, rfl⟩) y2 L y5 y6⟩
end
section
/-! one [ ] that the class keeps: what it means to the reference -/
theorem who_m2 {S : sS} {a l : Int} (h : whoC S a l = -2) : Xi S 895 4 ≠ -1 := by
  unfold whoC at h
  by_cases q : thk (ty7 S) a = 53 ∨ thk (ty7 S) a = 54
  · rw [if_pos q] at h
    by_cases r : thk (ty7 S) a = Xi S 895 3 ∧ Xi S 895 4 ≠ -1
    · exact r.2
    · rw [if_neg r] at h; omega
  · rw [if_neg q] at h
    unfold fnd at h
    by_cases r : mnV S (bA (ty7 S) a) (ruF S (bA (ty7 S) a) l) / 256 = 2
    · rw [if_pos r] at h; omega
    · rw [if_neg r] at h; omega
theorem itw_r {X : sS} {a : Int} (h : itR X a ≠ -9) : itW X a = itR X a := by
  unfold itR at h ⊢
  unfold itW
  by_cases c : 0 < Xi X 904 160 - a ∧ ikR X (Xi X 904 160 - 1) = 153
  · rw [if_pos c] at h ⊢
    rw [if_pos c]
    by_cases d : (Xi X 904 160 - a = 1 ∨ (Xi X 904 160 - a = 2 ∧ ikR X a = 102)) ∧ Xi X 904 116 ≠ -1
    · rw [if_pos d, if_pos d.1]
    · rw [if_neg d] at h; exact absurd rfl h
  · rw [if_neg c, if_neg c]
theorem wl_E {B : Nat → Int} {E q : Int} (hq : q ≤ E) (l : lt7 (B q.toNat) = 0) : ∀ (L : List (Int × Int)) (a p : Int), WLp B q a L p → WLp B E a L p
  | [], a, p, h => ⟨h.1, by have := h.2.1; omega, h.2.2⟩
  | (s, e) :: L, a, p, h => by
    obtain ⟨⟨h1, h2, h3⟩, h4, h5, h6, h7, h8⟩ := h
    have w := we_q hq l (q - s).toNat s (by omega)
    exact ⟨⟨h1, by omega, h3⟩, h4, by rw [w]; exact h5, h6, h7, wl_E hq l L e p h8⟩
/-- what the class keeps of [ ], in the reference's words -/
def OKP (W D : sS) (t p : Int) : Prop := (t = -2 → Xi W 895 4 ≠ -1) ∧ (t ≠ -2 → 0 ≤ t ∧ t < Xi D 904 19) ∧ -1 ≤ p ∧ (p ≠ -1 → p < Xi D 904 32 ∧ hsR D (if t = -2 then Xi D 904 116 else Xi D 918 t.toNat) p ≠ 0)
theorem ino_x {W T1 X : sS} {ts : Nat} {o q E : Int} (w : RLW W X) (t3 : TX3 W) (sl : SLF W X) (sk : Xi W 895 3 = 53) (ky : KEYR (Xj W 880) (Xj X 911)) (c0 : 0 ≤ Xi W 876 6) (o0 : 0 ≤ o) (oq : o < q) (qE : q < E) (be : BE (Xi W ts) (Xi X 906) E) (b93 : Xi W ts q.toNat = 93) (l5 : Xi W 876 6 + (q - o) + 1 ≤ 5130) (io : INO W T1 ts (o + 1) q 1) : o + 2 ≤ q ∧ ∃ t p : Int, INX X E o q t p ∧ OKP W X t p ∧ (0 ≤ Xi W 246 8 → Xi W 246 8 < 1666 → Xi T1 246 8 = Xi W 246 8 + 1 ∧ Xi T1 274 (Xi W 246 8).toNat = t ∧ Xi T1 275 (Xi W 246 8).toNat = p ∧ ∀ j : Nat, j ≠ (Xi W 246 8).toNat → Xi T1 274 j = Xi W 274 j ∧ Xi T1 275 j = Xi W 275 j) := by
  obtain ⟨T, c, ti, FT, i1, i2⟩ := io
  obtain ⟨_, _, tf, tt⟩ := ti
  have cn : c ≠ -1 := fun k => by have := (i1 k).1; omega
  obtain ⟨n1, n2⟩ := i2 cn
  have ok : inOK T c := Classical.byContradiction fun k => by have := (n1 k).1; omega
  obtain ⟨ec, L, wl, ir, e7, t7, _, _⟩ := tt cn
  have l9 : (L.length : Int) ≤ 9 := in_s (c := c) (by rw [e7, ec]) ok
  have c93 : Xi X 906 q.toNat = 93 := by rw [← be q.toNat (by omega)]; exact b93
  have l93 : lt7 (Xi X 906 q.toNat) = 0 := by rw [c93]; decide
  have beq : BE (Xi W ts) (Xi X 906) q := be_le be (by omega)
  have wlX : WLp (Xi X 906) q (o + 1) L q := wl_c beq L (o + 1) q (by omega) wl
  obtain ⟨W0, hW0⟩ : ∃ W0 : sS, W0 = (fun _ _ => Int32.ofInt (L.length : Int), fun _ j => Int64.ofInt (icr X (L.getD j (0, 0))), X.2.2) := ⟨_, rfl⟩
  have kX : KEP [(906, 907), (911, 917), (917, 919), (929, 930)] [(904, 15), (904, 116), (904, 19), (904, 32)] X (wWS X W0) := wws_k rfl rfl (by simp)
  have e160 : Xi (wWS X W0) 904 160 = L.length := by
    rw [wws_160, hW0]
    exact toI (by unfold rg; omega)
  have ri : RIW X (wWS X W0) L := by
    refine ⟨e160, fun i hi => ?_⟩
    rw [wws_994, hW0]
    show (Int64.ofInt (icr X (L.getD i (0, 0)))).toInt = _
    obtain ⟨w0, w1, w2, w3, w4⟩ := wl_ww L (o + 1) q (by omega) wl i hi
    refine toJ ?_
    generalize L.getD i (0, 0) = x at *
    have c13 : cv (icd W ts x) = icr X x := by
      unfold cv icd icr
      rw [cv_c (x.2 - x.1).toNat 13 (by omega)]
      exact c32_e beq _ (by omega)
    have wd : wdC (icd W ts x) := by
      unfold wdC icd
      have k := c27_r (B := Xi W ts) (f := x.1.toNat) (x.2 - x.1).toNat
      have p := c27_pos (B := Xi W ts) (f := x.1.toNat) (by have := w4 x.1 (Int.le_refl _) (by omega); omega) ((x.2 - x.1).toNat - 1)
      rw [show (x.2 - x.1).toNat - 1 + 1 = (x.2 - x.1).toNat by omega] at p
      exact ⟨p, Int.lt_of_lt_of_le k.2 (p27_12 ⟨(x.2 - x.1).toNat, by omega⟩)⟩
    have r := cv_rg wd
    rw [c13] at r
    unfold rgL; omega
  have ky1 : KEYR (Xj W 880) (Xj (wWS X W0) 911) := fun i hi => by rw [wws_j (by omega)]; exact ky i hi
  have wX : RLW T (wWS X W0) := w.k t3 (FT.kep rfl) (wws_k rfl rfl (by decide))
  have slT : SLF T (wWS X W0) := by
    unfold SLF at sl ⊢
    rw [FT.x 895 3 rfl, FT.x 895 4 rfl, wws_i (by omega), wws_i (by omega), (FT.kep rfl : KEP [(5, 6)] [] W T).x 5 rfl]
    exact sl
  have skT : Xi T 895 3 = 53 := by rw [FT.x 895 3 rfl]; exact sk
  have wlen : ∀ (L : List (Int × Int)) (a p : Int), WLp (Xi W ts) q a L p → (L.length : Int) ≤ p - a := fun L => by
    induction L with
    | nil => intro a p h; have := h.1; show (0 : Int) ≤ p - a; omega
    | cons x L ih =>
      intro a p h
      obtain ⟨⟨h1, _, _⟩, _, h5, h6, _, h8⟩ := h
      have k := ih _ _ h8
      have wb := (we7_b (B := Xi W ts) (e := q) (p := x.1)).1
      show (L.length : Int) + 1 ≤ p - a
      omega
  have ins : INSD T (wWS X W0) (Xi W 876 6).toNat L.length := insd_of (by omega) (by omega) beq ky1 wl ir e7 t7 ri (by have := wlen L _ _ wl; omega)
  have ecN : c = ((Xi W 876 6).toNat : Int) := by omega
  obtain ⟨r1, r2⟩ := in_r ins wX slT skT
  rw [← ecN] at r1 r2
  have si := r1.1 ok
  obtain ⟨_, tm, io, ipq⟩ := r2 ok
  have ia : itA (wWS X W0) = whoC T (inT T c) (Xi T 876 7 - 1) := by
    rcases tm with ⟨a1, a2⟩ | ⟨_, a2⟩
    · rw [a2, a1, skT]; rfl
    · exact a2
  have pn : ¬ bpP T c → inP T c = -1 := fun k => inP_n k
  have it : INT (wWS X W0) (whoC T (inT T c) (Xi T 876 7 - 1)) (inP T c) := by
    refine ⟨fun k => ?_, fun k => ?_, by rw [← ia]; exact si.1⟩
    · have e := itA_y k
      have s1 := si.1
      rw [e] at s1
      rw [itw_r s1, ← e, ia, ipq (io.2 k)]
      exact ⟨rfl, rfl, (si.2 k).1⟩
    · have e := itA_n k
      have s1 := si.1
      rw [e] at s1
      rw [itw_r s1, ← e, ia]
      exact ⟨rfl, pn (fun z => k (io.1 z))⟩
  have cT : Xi T 5 2 = Xi X 904 19 ∧ Xi T 5 5 = Xi X 904 32 ∧ Xi T 5 5 ≤ 12 := by
    have a := wX.2.2.1.2.2.1
    have b := wX.2.2.1.2.2.2.2.2.1
    rw [wws_i (by omega)] at a b
    omega
  have tr : (whoC T (inT T c) (Xi T 876 7 - 1) ≠ -2 → 0 ≤ whoC T (inT T c) (Xi T 876 7 - 1) ∧ whoC T (inT T c) (Xi T 876 7 - 1) < Xi T 5 2) := fun k => by
    rcases tm with ⟨a1, _⟩ | ⟨a1, _⟩
    · exact absurd a1 k
    · exact a1
  have pr : -1 ≤ inP T c ∧ (inP T c ≠ -1 → inP T c < Xi T 5 5 ∧ bpP T c) := by
    by_cases b : bpP T c
    · have y := (ok.2.2 b).1
      have z : inP T c = fnd T 5 (c + 1) (re7 (ty7 T) (c + 1)) := inP_y b
      have rgp : 0 ≤ fnd T 5 (c + 1) (re7 (ty7 T) (c + 1)) ∧ fnd T 5 (c + 1) (re7 (ty7 T) (c + 1)) < Xi T 5 5 := fnd_wc (by omega) wX.1.2.2.1 wX.2.1 y
      rw [z]
      exact ⟨by omega, fun _ => ⟨rgp.2, b⟩⟩
    · rw [pn b]
      exact ⟨by omega, fun k => absurd rfl k⟩
  refine ⟨?_, whoC T (inT T c) (Xi T 876 7 - 1), inP T c, ⟨wWS X W0, L, kX.le rfl (by decide), wl_E (by omega) l93 L _ _ wlX, ⟨qE, c93⟩, ⟨ri, by omega⟩, it⟩, ⟨fun k => ?_, fun k => by have := tr k; omega, pr.1, fun k => ⟨by have := pr.2 k; omega, ?_⟩⟩, fun h0 h1 => ?_⟩
  · apply Classical.byContradiction
    intro k
    have z : L.length = 0 := by have := wlen L _ _ wl; omega
    have no : ¬ isO (wWS X W0) := fun y => by have := y.1; rw [e160] at this; omega
    have s1 := si.1
    rw [itA_n no] at s1
    exact s1 (itR9 (f := 0) (by rw [e160]; omega) (by rw [e160, if_neg (by omega)]) (by rw [e160]; omega))
  · have y := who_m2 k
    rw [FT.x 895 4 rfl] at y
    exact y
  · have b := (pr.2 k).2
    have y := (si.2 (io.1 b)).2
    rw [ia, ← ipq b] at y
    have hk : ∀ x z : Int, hsR (wWS X W0) x z = hsR X x z := fun x z => hsN_k (fun j => kX.x 917 rfl j) (fun j => kX.x 929 rfl j) 17 x
    rw [hk] at y
    unfold ktC at y
    have t9 : whoC T (inT T c) (Xi T 876 7 - 1) ≠ -9 := by rw [← ia]; exact si.1
    have t1 : whoC T (inT T c) (Xi T 876 7 - 1) ≠ -1 := ok.2.1
    rw [if_neg t1, if_neg t9, wws_i (by omega), wws_i (by omega)] at y
    exact y
  · obtain ⟨_, U, ku, iao⟩ := n2 ok
    have e8 : Xi U 246 8 = Xi W 246 8 := ku.1.trans (FT.x 246 8 rfl)
    have eW : ∀ j, Xi U 274 j = Xi W 274 j ∧ Xi U 275 j = Xi W 275 j := fun j => ⟨(ku.2 j).1.trans ((FT.kep rfl : KEP [(274, 276)] [] W T).x 274 rfl j), (ku.2 j).2.trans ((FT.kep rfl : KEP [(274, 276)] [] W T).x 275 rfl j)⟩
    have e := iao.1 (by omega)
    rw [e8] at e
    have c52 := wX.2.2.1.2.2.1
    have rw1 : rg (whoC T (inT T c) (Xi T 876 7 - 1)) := by
      unfold rg
      by_cases k : whoC T (inT T c) (Xi T 876 7 - 1) = -2
      · omega
      · have := tr k; omega
    have rw2 : rg (inP T c) := by
      unfold rg
      have := pr.1
      by_cases k : inP T c = -1
      · omega
      · have := (pr.2 k).1; omega
    refine ⟨?_, ?_, ?_, fun j hj => ⟨?_, ?_⟩⟩
    · rw [e]; exact Xi_same (by unfold rg; omega)
    · rw [e, Xi_ne (by omega), Xi_ne (by omega)]; exact Xi_same rw1
    · rw [e, Xi_ne (by omega)]; exact Xi_same rw2
    · rw [e, Xi_ne (by omega), Xi_ne (by omega), Xi_ne (by omega)]; exact (eW j).1
    · rw [e, Xi_ne (by omega), Xi_ne (by omega), Xi_ne (by omega)]; exact (eW j).2
end
section
/-! the [ ] of a rule's phrases -/
theorem br_3 {B : Nat → Int} {f : Int} (f0 : 0 ≤ f) : ∀ (n : Nat) (o : Int) (L : List (Int × Int)), brF B f n = some (o, L) → (∀ x ∈ L, x.1 + 2 ≤ x.2) → 3 * (L.length : Int) ≤ n ∧ (o ≠ -1 → f + 3 * L.length ≤ o ∧ o < f + n)
  | 0, o, L, h, _ => by
    have h : some ((-1 : Int), ([] : List (Int × Int))) = some (o, L) := h
    simp only [Option.some.injEq, Prod.mk.injEq] at h
    obtain ⟨h1, h2⟩ := h
    subst h1; subst h2
    exact ⟨by decide, fun k => absurd rfl k⟩
  | n + 1, o, L, h, hx => by
    cases e : brF B f n with
    | none => rw [brF_0 e] at h; exact absurd h (by simp)
    | some y =>
      obtain ⟨o', L'⟩ := y
      rw [brF_1 e] at h
      by_cases c : B (f + n).toNat = 91
      · rw [if_pos c] at h
        by_cases d : o' = -1
        · rw [if_pos d] at h
          simp only [Option.some.injEq, Prod.mk.injEq] at h
          obtain ⟨h1, h2⟩ := h
          subst h2
          have i := br_3 f0 n o' L' e hx
          exact ⟨by omega, fun _ => by omega⟩
        · rw [if_neg d] at h; exact absurd h (by simp)
      · rw [if_neg c] at h
        by_cases c2 : B (f + n).toNat = 93
        · rw [if_pos c2] at h
          by_cases d : o' = -1
          · rw [if_pos d] at h; exact absurd h (by simp)
          · rw [if_neg d] at h
            simp only [Option.some.injEq, Prod.mk.injEq] at h
            obtain ⟨h1, h2⟩ := h
            subst h2
            have i := br_3 f0 n o' L' e (fun x hx' => hx x (List.mem_cons_of_mem _ hx'))
            have j := hx (o', f + n) (List.mem_cons_self ..)
            have j : o' + 2 ≤ f + n := j
            have i2 := i.2 d
            rw [List.length_cons]
            exact ⟨by omega, fun k => absurd h1.symm k⟩
        · rw [if_neg c2] at h
          simp only [Option.some.injEq, Prod.mk.injEq] at h
          obtain ⟨h1, h2⟩ := h
          subst h1; subst h2
          have i := br_3 f0 n o' L' e hx
          exact ⟨by omega, fun k => by have := i.2 k; omega⟩
theorem ich_x {W X S0 : sS} {f ts : Nat} {P E : Int} (v : ENV W X f) (sk : Xi W 895 3 = 53) (ky : KEYR (Xj W 880) (Xj X 911)) (hts : ts = txr W) (P0 : 0 ≤ P) (hE : E ≤ Xi W 876 5) (c0 : 0 ≤ Xi W 876 6) (l5 : Xi W 876 6 + (E - P) + 1 ≤ 5130) (k0 : KEP cYk cYf W S0) : ∀ (L : List (Int × Int)) (T : sS), ICH S0 ts L T → (∀ x ∈ L, P ≤ x.1 ∧ x.1 < x.2 ∧ x.2 < E ∧ Xi X 906 x.2.toNat = 93) → (∀ x ∈ L, x.1 + 2 ≤ x.2) ∧ (0 ≤ Xi S0 246 8 → Xi S0 246 8 + L.length ≤ 1666 → Xi T 246 8 = Xi S0 246 8 + L.length ∧ ICX X T E (Xi S0 246 8) (OKP W X) L)
  | [], T, h, _ => by
    have h : T = S0 := h
    rw [h]
    exact ⟨fun x hx => (by cases hx), fun _ _ => ⟨(by simp), trivial⟩⟩
  | (o, q) :: L, T, ⟨Wm, h1, h2, h3⟩, hx => by
    obtain ⟨i1, i2⟩ := ich_x v sk ky hts P0 hE c0 l5 k0 L Wm h1 (fun x hx' => hx x (List.mem_cons_of_mem _ hx'))
    obtain ⟨x1, x2, x3, x4⟩ := hx (o, q) (List.mem_cons_self ..)
    have x1 : P ≤ o := x1
    have x2 : o < q := x2
    have x3 : q < E := x3
    have x4 : Xi X 906 q.toNat = 93 := x4
    have k1 : KEP cYk cYf W Wm := k0.tr ((ich_m L Wm h1).1.kep rfl)
    have st := v.2.2.2.2.1.1
    have t3 : TX3 W := rst_3 st
    have tsx : ts = 245 ∨ ts = 902 ∨ ts = 903 := by rw [hts]; exact t3
    have kt : ∀ j, Xi Wm ts j = Xi W ts j := fun j => by rcases tsx with e | e | e <;> (rw [e]; exact k1.x _ rfl j)
    have w1 : RLW Wm X := v.1.k t3 (k1.le rfl (by decide)) KEP.rf
    have tx : txr Wm = txr W := by unfold txr; rw [(k1.2 (20, 1) (by decide)).2.2]
    have t31 : TX3 Wm := by unfold TX3; rw [tx]; exact t3
    have e6 : Xi Wm 876 6 = Xi W 876 6 := k1.f 876 6 (by decide)
    have be : BE (Xi Wm ts) (Xi X 906) E := fun j hj => by rw [kt, hts]; exact st.2 j (by omega)
    obtain ⟨y1, t, p, y2, y3, y4⟩ := ino_x (E := E) w1 t31 (slf_k v.2.2.2.1 k1 KEP.rf) (by rw [k1.f 895 3 (by decide)]; exact sk) (fun i hi => by rw [k1.j 880 rfl]; exact ky i hi) (by rw [e6]; exact c0) (by omega) x2 x3 be (by rw [be q.toNat (by omega)]; exact x4) (by rw [e6]; omega) h3
    have okk : OKP W X t p := by
      obtain ⟨z1, z2⟩ := y3
      exact ⟨fun e => by rw [← k1.f 895 4 (by decide)]; exact z1 e, z2⟩
    refine ⟨fun x hx' => ?_, fun a0 a1 => ?_⟩
    · rcases List.mem_cons.mp hx' with e | e
      · rw [e]; exact y1
      · exact i1 x e
    · rw [List.length_cons] at a1
      obtain ⟨j1, j2⟩ := i2 a0 (by omega)
      obtain ⟨z1, z2, z3, z4⟩ := y4 (by omega) (by omega)
      have ej : (Xi Wm 246 8).toNat = (Xi S0 246 8 + L.length).toNat := by rw [j1]
      refine ⟨by rw [List.length_cons]; omega, icx_g (N := Xi S0 246 8 + L.length) (fun _ _ _ _ z => z) (fun _ _ z => z) (fun j hj => z4 j (by omega)) a0 L (Int.le_refl _) j2, ?_, ?_⟩
      · rw [← ej, z2, z3]; exact y2
      · rw [← ej, z2, z3]; exact okk
theorem tx_x {W A B X : sS} {f ts cl : Nat} {row P M : Int} (hcl : cl < 600) (v : ENV W X f) (sk : Xi W 895 3 = 53) (kA : KEP cYk cYf W A) (ky : KEYR (Xj W 880) (Xj X 911)) (hts : ts = txr W) (P0 : 0 ≤ P) (M0 : 0 ≤ M) (hE : P + M ≤ Xi W 876 5) (h5 : P + M ≤ 5000) (c0 : 0 ≤ Xi W 876 6) (l5 : Xi W 876 6 + M + 1 ≤ 5130) (eP : pc7 A row + 1 = P) (eM : Xj A 879 row.toNat = M) (sy : SYL A B ts cl row (P + M) (-1)) (n8 : 0 ≤ Xi A 246 8 ∧ 3 * Xi A 246 8 ≤ P) : ∃ L : List (Int × Int), brF (Xi X 906) P M.toNat = some (-1, L) ∧ Xi B 246 8 = Xi A 246 8 + L.length ∧ 3 * Xi B 246 8 ≤ P + M ∧ ICX X B (P + M) (Xi A 246 8) (OKP W X) L ∧ CLM B cl 7 0 (-1) (Xi A 246 8) P M (-1) ∧ KCL A B cl := by
  obtain ⟨L, b1, ch, _, _, kc, cm, _⟩ := sy
  have st := v.2.2.2.2.1.1
  have t3 : TX3 W := rst_3 st
  have tsx : ts = 245 ∨ ts = 902 ∨ ts = 903 := by rw [hts]; exact t3
  have tsA : ∀ j, Xi A ts j = Xi W ts j := fun j => by rcases tsx with e | e | e <;> (rw [e]; exact kA.x _ rfl j)
  have be : BE (Xi A ts) (Xi X 906) (P + M) := fun j hj => by rw [tsA, hts]; exact st.2 j (by omega)
  rw [eP, show (P + M - P).toNat = M.toNat by omega, brx_c M.toNat (fun j j0 j1 => be j.toNat (by omega))] at b1
  rw [eP, eM] at cm
  have kSY : KEP cYk cYf W (syW A cl row) := by
    unfold syW
    exact KEP.tr kA (KEP.tr (KEP.tr (KEP.tr ((fr_cl hcl).kep rfl) ((fr_cl hcl).kep rfl)) ((fr_cl hcl).kep rfl)) ((fr_cl hcl).kep rfl))
  have e8 : Xi (syW A cl row) 246 8 = Xi A 246 8 := by unfold syW; rw [Xi_ne (by omega), Xi_ne (by omega), Xi_ne (by omega), Xi_ne (by omega)]
  have mem := (brk_o P0 _ _ _ b1).2
  obtain ⟨i1, i2⟩ := ich_x (P := P) (E := P + M) v sk ky hts P0 hE c0 (by omega) kSY L B ch (fun x hx => by
    obtain ⟨a1, a2, a3, a4, a5, _⟩ := mem x hx
    exact ⟨a1, a2, by omega, a5⟩)
  have t := br_3 P0 _ _ _ b1 i1
  rw [e8] at i2
  obtain ⟨j1, j2⟩ := i2 n8.1 (by omega)
  exact ⟨L, b1, j1, by omega, j2, cm, kc⟩
/-- only 'say' makes a clause of say -/
theorem tsy_7 {S : sS} {a b now f n w h t g m : Int} (y : TSY S a b now f n w h t g m) : f ≠ 7 := by
  rcases y with ⟨_, _, e, _⟩ | ⟨_, _, ⟨_, _, _, _, y⟩, _⟩ | ⟨_, _, _, _, _, _, y⟩
  · omega
  · rcases y with ⟨_, e, _⟩ | ⟨_, _, _, e⟩
    · rw [e]; split <;> decide
    · rw [e]; split <;> decide
  · rcases y with ⟨_, e, _⟩ | ⟨_, _, e, _⟩
    · omega
    · rw [e]; split <;> decide
theorem phx_kl {A B : sS} {ts cl : Nat} {key p e : Int} (hcl : cl < 600) (h : PHX A B ts cl key p e 1) (c : Xi A (276 + cl) 0 = 11) : KCL A B cl ∧ (key ≠ 43 → Xi B (276 + cl) 0 ≠ 7) := by
  obtain ⟨h1, h2, h3, _, _⟩ := h
  by_cases k3 : key = 43
  · obtain ⟨_, L, _, _, _, _, kc, _⟩ := (h1 k3).1 rfl
    exact ⟨kc, fun k => absurd k3 k⟩
  · by_cases k4 : key = 44
    · obtain ⟨kc, g, _⟩ := h2 k4
      obtain ⟨_, f, n, w, hh, t, gg, m, y, cm⟩ := g rfl
      exact ⟨kc, fun _ => by rw [cm.1]; exact tsy_7 y⟩
    · obtain ⟨g1, g2, g3, g4⟩ := h3 k3 k4
      by_cases k5 : key = 45
      · obtain ⟨kc, m1, m2, m3⟩ := g1 k5
        refine ⟨kc, fun _ => ?_⟩
        by_cases q : isK A (whkC A (p + 1) e) 0 = 0
        · have := (m1 q).1; omega
        · by_cases q2 : whoC A (wheC A (p + 1) e + 1) e = -1
          · have := (m2 q q2).1; omega
          · rw [(m3 q q2).2.2.1]; decide
      · by_cases k6 : key = 46 ∨ key = 47
        · obtain ⟨U, u1, u2, u3⟩ := g2 k6
          have kc : KCL A B cl := fun k j hk hn => by
            rw [u2.1 k j hk hn, u1, Xi_ne (by omega), Xi_ne (by omega)]
          refine ⟨kc, fun _ => ?_⟩
          have e0 : Xi B (276 + cl) 0 = Xi U (276 + cl) 0 := u3.x _ _ (by simp [md_rr_propertyOfThing__p, mdf, inR])
          rw [e0, u1, Xi_ne (by omega), Xi_same (by unfold rg; omega)]; decide
        · by_cases k9 : key = 49
          · obtain ⟨U, u1, u2, u3⟩ := g3 k9
            by_cases q : re7 (ty7 A) (p + 1) = e
            · obtain ⟨kc, t1, t2⟩ := u2 q
              refine ⟨fun k j hk hn => by rw [kc k j hk hn, u1, Xi_ne (by omega)], fun _ => ?_⟩
              by_cases r : (taF U (p + 1) e (e - (p + 1) - 1).toNat).2.2 = 1
              · rw [(t2 r).2.2.1]; decide
              · have := (t1 r).1; omega
            · obtain ⟨kc, t1, t2, t4⟩ := u3 q
              refine ⟨fun k j hk hn => by rw [kc k j hk hn, u1, Xi_ne (by omega)], fun _ => ?_⟩
              by_cases r : fnd U 8 (p + 1) (re7 (ty7 A) (p + 1)) = -1 ∨ Xi U 19 (fnd U 8 (p + 1) (re7 (ty7 A) (p + 1))).toNat < 0
              · have := (t1 r).1; omega
              · by_cases r2 : whoC U (re7 (ty7 A) (p + 1)) e = -1
                · have := (t2 (by omega) (by omega) r2).1; omega
                · rw [(t4 (by omega) (by omega) r2).2.2.1]; decide
          · have z := (g4 k5 (by omega) (by omega) k9).2
            rw [z]
            exact ⟨KCL.rf, fun _ => by rw [c]; decide⟩
end
section
/-! the phrases of a new rule: what the class keeps of their [ ] -/
/-- a text ends ahead of what follows it -/
def TLP (W : sS) : Prop := ∀ i : Int, 0 ≤ i → i + 1 < Xi W 876 7 → ty7 W i = 102 → pc7 W i + 1 + Xj W 879 i.toNat ≤ pc7 W (i + 1)
def IXP (W D T : sS) (c : Nat) : Prop := (0 ≤ Xi T (276 + c) 4 ∧ 0 ≤ Xi T (276 + c) 5 ∧ Xi T (276 + c) 4 + Xi T (276 + c) 5 ≤ Xi W 876 5) ∧ 0 ≤ Xi T (276 + c) 3 ∧ ∃ L : List (Int × Int), brF (Xi D 906) (Xi T (276 + c) 4) (Xi T (276 + c) 5).toNat = some (-1, L) ∧ Xi T (276 + c) 3 + L.length ≤ Xi T 246 8 ∧ ICX D T (Xi T (276 + c) 4 + Xi T (276 + c) 5) (Xi T (276 + c) 3) (OKP W D) L
theorem ixp_k {W D T T1 : sS} {c : Nat} (h : IXP W D T c) (e : ∀ j, Xi T1 (276 + c) j = Xi T (276 + c) j) (g : GRI T T1) : IXP W D T1 c := by
  obtain ⟨h1, h2, L, h3, h4, h5⟩ := h
  unfold IXP
  rw [e, e, e]
  exact ⟨h1, h2, L, h3, by have := g.1; omega, icx_g (fun _ _ _ _ z => z) (fun _ _ z => z) g.2 h2 L h4 h5⟩
theorem phc_i {W D : sS} {f ts c0 N ru base : Nat} {a : Int} (v : ENV W D f) (sk : Xi W 895 3 = 53) (ky : KEYR (Xj W 880) (Xj D 911)) (hts : ts = txr W) (tx : TXL W) (tl : TLP W) (h5 : Xi W 876 5 ≤ 5000) (e6 : Xi W 876 6 = Xi W 876 7) (ea : a = Xi W 899 5 + 1) (a0 : 0 ≤ a) (eb : (base : Int) = Xi W 246 5) (b5 : base + 8 ≤ 600) (hru : ru < 24) (ch : PCHN W D f c0 a N) (n8 : 0 ≤ Xi W 246 8 ∧ 3 * Xi W 246 8 ≤ pc7 W 0) : ∀ (n : Nat) (T : sS), n ≤ N → n ≤ 8 → PHC md_rr_rulePhrases__p W ru ts n T → Xi T 246 5 = Xi W 246 5 + n ∧ 0 ≤ Xi T 246 8 ∧ (n = 0 → 3 * Xi T 246 8 ≤ pc7 W 0) ∧ (0 < n → 3 * Xi T 246 8 ≤ pc7 W (eP7 W a (n - 1))) ∧ ∀ k : Nat, k < n → Xi T (276 + (base + k)) 0 = 7 → IXP W D T (base + k)
  | 0, T, _, _, h => by
    have h : T = W := h
    rw [h]
    exact ⟨by omega, n8.1, fun _ => n8.2, fun k => absurd k (by omega), fun k hk => absurd hk (Nat.not_lt_zero _)⟩
  | n + 1, T, hn, hn8, h => by
    obtain ⟨W', A, B, h1, nx, ag, F, ph, FB, eT⟩ := h
    obtain ⟨i1, i2, i3, i4, i5⟩ := phc_i v sk ky hts tx tl h5 e6 ea a0 eb b5 hru ch n8 n W' (by omega) (by omega) h1
    have ecl : (Xi W' 246 5).toNat = base + n := by omega
    obtain ⟨FA, n5, kc, cmA⟩ := nx
    rw [← ea, ecl] at ph
    rw [ecl] at kc cmA
    obtain ⟨c1, _, _, c4, c5, c6⟩ := ch n (by omega)
    have mono := v.2.2.2.2.2.2
    have p0 : 0 ≤ pP7 W a n := by omega
    have bd : 3 * Xi W' 246 8 ≤ pc7 W (pP7 W a n) := by
      cases n with
      | zero =>
        have t := i3 rfl
        have z : pP7 W a 0 = a := rfl
        rw [z] at c5 ⊢
        by_cases q : a = 0
        · rw [q]; exact t
        · have := mono 0 a (by omega) (by omega) (by omega); omega
      | succ m =>
        have t := i4 (by omega)
        rw [show m + 1 - 1 = m by omega] at t
        have z : pP7 W a (m + 1) = eP7 W a m + 1 := rfl
        obtain ⟨_, _, _, d4, d5, d6⟩ := ch m (by omega)
        have := mono (eP7 W a m) (pP7 W a (m + 1)) (by omega) (by omega) (by omega)
        omega
    have A8 : Xi A 246 8 = Xi W' 246 8 := FA.x 246 8 rfl
    have gA : GRI W' A := gri_f FA rfl
    obtain ⟨kB, k7⟩ := phx_kl (by omega) ph cmA.1
    have eTc : ∀ c j : Nat, Xi T (276 + c) j = Xi B (276 + c) j := fun c j => by rw [eT, Xi_ne (by omega)]
    have T8 : Xi T 246 8 = Xi B 246 8 := by rw [eT, Xi_ne (by omega)]
    have gBT : GRI B T := by
      rw [eT]
      exact ⟨by rw [Xi_ne (by omega)]; exact Int.le_refl _, fun j _ => ⟨Xi_ne (by omega), Xi_ne (by omega)⟩⟩
    have gW : GRI W' T := (gA.tr (gri_x ph)).tr gBT
    have B5 : Xi T 246 5 = Xi W 246 5 + ((n + 1 : Nat) : Int) := by
      rw [eT, Xi_ne (by omega), ph.2.2.2.1.x 246 5 rfl, n5, i1]; omega
    have old : ∀ k : Nat, k < n → Xi T (276 + (base + k)) 0 = 7 → IXP W D T (base + k) := fun k hk h7 => by
      have ec : ∀ j : Nat, Xi T (276 + (base + k)) j = Xi W' (276 + (base + k)) j := fun j => by
        rw [eTc, kB (base + k) j (by omega) (by omega), kc (base + k) j (by omega) (by omega)]
      exact ixp_k (i5 k hk (by rw [← ec]; exact h7)) ec gW
    have lt : pc7 W (pP7 W a n) < pc7 W (eP7 W a n) := mono _ _ p0 c5 c6
    by_cases k3 : ty7 W (pP7 W a n) = 43
    · have sc := v.2.1
      have tb := v.2.2.1
      have tp : tkR D (f + pP7 W a n) = 143 := by rw [tkx sc ⟨p0, by omega⟩, k3]; rfl
      have phe : tkR D (f + pP7 W a n + 1) = 5 ∧ (f : Int) + eP7 W a n = f + pP7 W a n + 2 := by
        rcases c1 with ⟨_, _, _, x, y⟩ | ⟨x, _⟩ | ⟨x, _⟩ | ⟨⟨x, _⟩ | ⟨x, _⟩, _⟩ | ⟨x, _⟩ | x
        · exact ⟨x, y⟩
        · omega
        · omega
        · omega
        · omega
        · omega
        · obtain ⟨x, _⟩ := x
          omega
      have ty2 : ty7 W (pP7 W a n + 1) = 102 := by
        have t := phe.1
        rw [show (f : Int) + pP7 W a n + 1 = f + (pP7 W a n + 1) by omega, tkx sc ⟨by omega, by omega⟩] at t
        have b := tb (pP7 W a n + 1)
        unfold tr7 at t
        split at t
        · omega
        · split at t
          · omega
          · split at t
            · omega
            · split at t
              · assumption
              · split at t
                · omega
                · split at t
                  · omega
                  · split at t
                    · omega
                    · split at t
                      · omega
                      · split at t <;> omega
      obtain ⟨f8, sy⟩ := (ph.1 k3).1 rfl
      have lw : pP7 W a n + 1 < Xi W 876 7 := by omega
      have pcA : pc7 A (pP7 W a n + 1) = pc7 W (pP7 W a n + 1) := by
        unfold pc7
        rw [if_pos ⟨by omega, by have := ag.2.1; omega⟩, if_pos ⟨by omega, lw⟩]
        exact (ag.1 _ (by omega)).2.1
      have jA : Xj A 879 (pP7 W a n + 1).toNat = Xj W 879 (pP7 W a n + 1).toNat := (ag.1 _ (by omega)).2.2
      obtain ⟨t1, t2, t3⟩ := tx.1 (pP7 W a n + 1) (by omega) lw ty2
      have tl1 := tl (pP7 W a n + 1) (by omega) (by omega) ty2
      have pl0 : 0 ≤ pc7 W (pP7 W a n + 1) := by
        unfold pc7
        rw [if_pos ⟨by omega, lw⟩]
        exact v.2.2.2.2.1.2.2 _
      have lt2 : pc7 W (pP7 W a n) < pc7 W (pP7 W a n + 1) := mono _ _ p0 (by omega) lw
      rw [pcA, jA] at sy
      obtain ⟨L, x1, x2, x3, x4, x5, _⟩ := tx_x (P := pc7 W (pP7 W a n + 1) + 1) (M := Xj W 879 (pP7 W a n + 1).toNat) (by omega) v sk (F.kep rfl) ky hts (by omega) t1 t2 (by omega) tx.2.2 t3 (by rw [pcA]) jA sy ⟨by omega, by omega⟩
      obtain ⟨y0, _, _, y3, y4, y5, _⟩ := x5
      refine ⟨B5, by rw [T8]; omega, fun k => absurd k (by omega), fun _ => ?_, fun k hk h7 => ?_⟩
      · rw [T8, show n + 1 - 1 = n by omega]
        have e2 : eP7 W a n = pP7 W a n + 1 + 1 := by omega
        rw [e2]
        omega
      · by_cases kn : k < n
        · exact old k kn h7
        · have ek : k = n := by omega
          subst ek
          unfold IXP
          rw [eTc, eTc, eTc, y3, y4, y5, T8]
          exact ⟨⟨by omega, t1, t2⟩, by omega, L, x1, by omega, icx_g (fun _ _ _ _ z => z) (fun _ _ z => z) gBT.2 (by omega) L (by omega) x4⟩
    · have kin := ph.2.2.2.2 k3
      refine ⟨B5, by rw [T8, kin.1]; omega, fun k => absurd k (by omega), fun _ => ?_, fun k hk h7 => ?_⟩
      · rw [T8, kin.1, show n + 1 - 1 = n by omega]; omega
      · by_cases kn : k < n
        · exact old k kn h7
        · have ek : k = n := by omega
          subst ek
          rw [eTc] at h7
          exact absurd h7 (k7 k3)

/-! a new rule: what the class keeps of it means the same to the reference -/
theorem okp_c {U1 T B D' V : sS} {ru : Nat} {t p a o k : Int} (y : OKP B D' t p) (e4 : Xi B 895 4 = Xi D' 904 116) (e6 : Xi D' 904 116 = nnD (if o ≠ -1 then Xi V 21 o.toNat else if k ≠ -1 then k else Xi V 19 a.toNat)) (r1 : Xi U1 (248 + ru) 1 = a ∧ Xi U1 (248 + ru) 2 = o ∧ Xi U1 (248 + ru) 3 = k) (a0 : 0 ≤ a) (h19 : o ≠ -1 ∨ k ≠ -1 → 0 ≤ Xi V 19 a.toNat) (hr : -1 ≤ k ∧ ∀ j, -2 ≤ Xi V 19 j) (h21 : ∀ j, 0 ≤ Xi V 21 j) (kU : ∀ j, Xi U1 19 j = Xi V 19 j ∧ Xi U1 21 j = Xi V 21 j) (kT : KEP [(917, 919), (929, 930)] [(904, 19), (904, 32)] D' T) : OKC U1 T ru t p := by
  obtain ⟨y1, y2, y3, y4⟩ := y
  have en : nkU U1 ru = (if o ≠ -1 then Xi V 21 o.toNat else if k ≠ -1 then k else Xi V 19 a.toNat) := by
    unfold nkU
    rw [r1.1, r1.2.1, r1.2.2, (kU _).1, (kU _).2]
  have hk : ∀ x z : Int, hsR T x z = hsR D' x z := fun x z => hsN_k (fun j => kT.x 917 rfl j) (fun j => kT.x 929 rfl j) 17 x
  have m2 : t = -2 → nMU U1 ru ∧ Xi D' 904 116 = nkU U1 ru := fun e => by
    have z := y1 e
    rw [e4, e6] at z
    rw [en, e6]
    unfold nMU
    rw [r1.1, (kU _).1]
    unfold nnD at z ⊢
    by_cases q : (if o ≠ -1 then Xi V 21 o.toNat else if k ≠ -1 then k else Xi V 19 a.toNat) = -2
    · rw [if_pos q] at z; exact absurd rfl z
    · rw [if_neg q] at z ⊢
      refine ⟨⟨a0, ?_⟩, rfl⟩
      by_cases q1 : o = -1
      · by_cases q2 : k = -1
        · have n1 : ¬ (o ≠ -1) := fun x => x q1
          have n2 : ¬ (k ≠ -1) := fun x => x q2
          rw [if_neg n1, if_neg n2] at q z
          have := hr.2 a.toNat
          omega
        · exact h19 (Or.inr q2)
      · exact h19 (Or.inl q1)
  refine ⟨fun e => (m2 e).1, fun e => by rw [kT.f 904 19 (by decide)]; exact y2 e, y3, fun e => ?_⟩
  obtain ⟨z1, z2⟩ := y4 e
  refine ⟨by rw [kT.f 904 32 (by decide)]; exact z1, ?_⟩
  rw [hk]
  by_cases q : t = -2
  · rw [if_pos q] at z2 ⊢
    rw [← (m2 q).2]; exact z2
  · rw [if_neg q] at z2 ⊢
    rw [kT.x 918 rfl]; exact z2
theorem rul_x {V U1 V' T : sS} {ts ru N K : Nat} {s hd g : Int} (rf : RULF V U1 V' T ts ru N K s hd g) (hru : ru < 24) (hK : 0 < K) (hV : HI V) (h5 : Xi V 876 5 ≤ 5000) (tlV : TLP V) (n8 : 0 ≤ Xi V 246 8 ∧ 3 * Xi V 246 8 ≤ pc7 V 0) (a1 : RVO U1 T) : GRI V U1 ∧ (∃ i : Int, 0 ≤ i ∧ i < Xi V 876 7 ∧ 3 * Xi U1 246 8 ≤ pc7 V i) ∧ (∀ c : Nat, rl0 U1 ru ≤ c → (c : Int) < rl0 U1 ru + Xi U1 (248 + ru) 6 → Xi U1 (276 + c) 0 = 7 → IXC1 U1 T ru c) ∧ (∀ k : Nat, k < N → Xi U1 (276 + ((Xi U1 (248 + ru) 7 + Xi U1 (248 + ru) 4).toNat + k)) 0 = 5 → Xi U1 (276 + ((Xi U1 (248 + ru) 7 + Xi U1 (248 + ru) 4).toNat + k)) 6 = -2 → nMU U1 ru) ∧ (∀ c j : Nat, (c : Int) < Xi V 246 5 → Xi U1 (276 + c) j = Xi V (276 + c) j) ∧ (∀ r j : Nat, r < 24 → r ≠ ru → Xi U1 (248 + r) j = Xi V (248 + r) j) ∧ Xi U1 246 2 = Xi V 246 2 + 1 ∧ Xi U1 (248 + ru) 5 = N := by
  obtain ⟨A, B, A', B', C', D', E, W, hdk, ⟨FPA, kre, FB, eC⟩, F1, FB2, FR3, ⟨n6, b246, b996, bold, btst⟩, tr, ⟨K8, phc, eU, w246, gri, wold, pgo⟩, ⟨f, P, ⟨⟨pe, b99⟩, tss⟩, ch, rp⟩, eT⟩ := rf
  obtain ⟨v, sk, ky, hts, tx, nv, e6B, ⟨l1, dot⟩, b8, b5, b9⟩ := pe
  have kVB : KEP [(19, 20), (21, 22), (274, 276), (877, 880)] [(246, 8), (876, 5), (876, 6), (876, 7)] V B := KEP.tr (F1.kep rfl) (FB2.kep rfl)
  have b7 : Xi B 876 7 = Xi V 876 7 := kVB.f 876 7 (by decide)
  have pcB : ∀ r, pc7 B r = pc7 V r := fun r => by
    unfold pc7
    rw [b7, kVB.x 878 rfl, kVB.f 876 5 (by decide)]
  have tyB : ∀ r, ty7 B r = ty7 V r := fun r => by
    unfold ty7
    rw [b7, kVB.x 877 rfl]
  have tlB : TLP B := fun i h0 h1 h2 => by
    rw [pcB, pcB, kVB.j 879 rfl]
    exact tlV i h0 (by omega) (by rw [← tyB]; exact h2)
  have e8B : Xi B 246 8 = Xi V 246 8 := kVB.f 246 8 (by decide)
  obtain ⟨_, w8, _, wB, ix⟩ := phc_i (base := (Xi B 246 5).toNat) (a := g + 1) v sk ky hts tx tlB (by rw [kVB.f 876 5 (by decide)]; exact h5) e6B (by rw [b99]) (by omega) (by omega) (by omega) hru ch ⟨by omega, by rw [e8B, pcB]; exact n8.2⟩ K W (Nat.le_refl _) K8 phc
  have wK := wB hK
  obtain ⟨_, _, _, c4, c5, c6⟩ := ch (K - 1) (by omega)
  obtain ⟨wr, w6⟩ := phc_r hru K W K8 phc
  have eUx : ∀ c j : Nat, ¬ (c = 248 + ru ∧ j = 5) → ¬ (c = 246 ∧ j = 2) → Xi U1 c j = Xi W c j := fun c j h1 h2 => by rw [eU, Xi_ne (by omega), Xi_ne (by omega)]
  have rows : ∀ j : Nat, j ≠ 5 → j ≠ 6 → Xi U1 (248 + ru) j = Xi A (248 + ru) j := fun j h1 h2 => by
    rw [eUx _ _ (by omega) (by omega), wr ru j hru (by omega)]
    exact FB2.x _ _ (by simp [md_rr_tests__p, mdf, inR]; omega)
  have r5 : Xi U1 (248 + ru) 5 = N := by rw [eU, Xi_ne (by omega), Xi_same (by unfold rg; omega)]; exact b996
  have r6 : Xi U1 (248 + ru) 6 = K := by rw [eUx _ _ (by omega) (by omega)]; exact w6 hK
  obtain ⟨⟨_, a7⟩, ⟨k3, k4, k5, k6⟩, kru, hold, _, _, h6, hn6⟩ := hdk
  have e8U : Xi U1 246 8 = Xi W 246 8 := eUx _ _ (by omega) (by omega)
  have gWU : GRI W U1 := ⟨by rw [e8U]; exact Int.le_refl _, fun j _ => ⟨eUx _ _ (by omega) (by omega), eUx _ _ (by omega) (by omega)⟩⟩
  have gVB : GRI V B := gri_k ⟨e8B, fun j => ⟨kVB.x 274 rfl j, kVB.x 275 rfl j⟩⟩
  have a45 : Xi A 246 5 = Xi V 246 5 + Xi U1 (248 + ru) 4 := by
    rw [rows 4 (by omega) (by omega)]
    by_cases q : s = 6
    · obtain ⟨⟨_, _, _, z4⟩, _, z5, _⟩ := h6 q
      rw [z4, z5]; omega
    · obtain ⟨a, o, k, n, ⟨_, _, _, z4⟩, _, _, _, _, z5, _⟩ := hn6 q
      rw [z4, z5]
  have a5 : 0 ≤ Xi A 246 5 := by
    have v5 : 0 ≤ Xi V 246 5 := (hV.c 246 5).1
    by_cases q : s = 6
    · rw [(h6 q).2.2.1]; exact v5
    · obtain ⟨a, o, k, n, _, _, ⟨_, _, _, z4⟩, _, _, z5, _⟩ := hn6 q
      rw [z5]; omega
  have e7U : Xi U1 (248 + ru) 7 = Xi V 246 5 := by rw [rows 7 (by omega) (by omega)]; exact a7
  have base0 : rl0 U1 ru = (Xi B 246 5).toNat := by unfold rl0; rw [e7U, r5, b246, a45]
  have kU : ∀ j, Xi U1 19 j = Xi V 19 j ∧ Xi U1 21 j = Xi V 21 j := fun j => by
    have k : KEP [(19, 20), (21, 22)] [] V U1 := KEP.tr (kVB.le rfl (by decide)) (FR3.kep rfl)
    exact ⟨k.x 19 rfl j, k.x 21 rfl j⟩
  have FD := tsr_f N D' tr
  have FE := rph_f K E rp
  have c116 : Xi D' 904 116 = Xi B' 904 116 := by rw [FD.x 904 116 rfl, eC, Xi_ne (by omega)]
  have kDT : KEP [(906, 907), (911, 919), (929, 930)] [(904, 15), (904, 19), (904, 32)] D' T := by
    rw [eT]
    refine KEP.tr (FE.kep rfl) ?_
    unfold rlW
    exact KEP.tr (KEP.tr (KEP.tr (KEP.tr (KEP.tr (KEP.tr (KEP.tr (kep_w1 rfl (by simp)) (kep_w1 rfl (by simp))) (kep_w1 rfl (by simp))) (kep_w1 rfl (by simp))) (kep_w1 rfl (by simp))) (kep_w1 rfl (by simp))) (kep_w1 rfl (by simp))) (kep_w1 rfl (by simp))
  have e4 : Xi B 895 4 = Xi D' 904 116 := by rw [FB2.x 895 4 rfl, k4, c116]
  have r19 : ∀ j, -2 ≤ Xi V 19 j := fun j => (show -2 ≤ Xi V 19 j ∧ Xi V 19 j ≤ 15 from hV.c 19 j).1
  have r21 : ∀ j, 0 ≤ Xi V 21 j := fun j => (show 0 ≤ Xi V 21 j ∧ Xi V 21 j ≤ 15 from hV.c 21 j).1
  have noun : Xi B 895 4 ≠ -1 → s ≠ 6 := fun z q => by
    have := (h6 q).2.2.2
    rw [FB2.x 895 4 rfl] at z
    exact z this
  have okc : ∀ t p : Int, OKP B D' t p → OKC U1 T ru t p := fun t p y => by
    by_cases q : s = 6
    · have nt : t ≠ -2 := fun e => noun (y.1 e) q
      obtain ⟨y1, y2, y3, y4⟩ := y
      refine ⟨fun e => absurd e nt, fun e => by rw [kDT.f 904 19 (by decide)]; exact y2 e, y3, fun e => ?_⟩
      obtain ⟨z1, z2⟩ := y4 e
      rw [if_neg nt] at z2 ⊢
      have hk : ∀ x z : Int, hsR T x z = hsR D' x z := fun x z => hsN_k (fun j => kDT.x 917 rfl j) (fun j => kDT.x 929 rfl j) 17 x
      exact ⟨by rw [kDT.f 904 32 (by decide)]; exact z1, by rw [hk, kDT.x 918 rfl]; exact z2⟩
    · obtain ⟨a, o, k, n, ⟨z1, z2, z3, z4⟩, _, ⟨⟨q1, _⟩, _, ⟨q3, _⟩, _⟩, ⟨q4, _⟩, q5, _⟩ := hn6 q
      exact okp_c y e4 (by rw [c116]; exact q5) ⟨by rw [rows 1 (by omega) (by omega)]; exact z1, by rw [rows 2 (by omega) (by omega)]; exact z2, by rw [rows 3 (by omega) (by omega)]; exact z3⟩ q1 q4 ⟨q3, r19⟩ r21 kU (kDT.le rfl (by decide))
  have nmu : Xi B 895 4 ≠ -1 → nMU U1 ru := fun z => (okc (-2) (-1) ⟨fun _ => z, fun e => absurd rfl e, Int.le_refl _, fun e => absurd rfl e⟩).1 rfl
  refine ⟨(gVB.tr gri).tr gWU, ⟨eP7 B (g + 1) (K - 1), by omega, by omega, by rw [e8U, ← pcB]; exact wK⟩, fun c c1 c2 c3 => ?_, fun k hk c3 c6 => ?_, fun c j hc => ?_, fun r j hr hn => ?_, ?_, r5⟩
  · rw [base0] at c1 c2
    rw [r6] at c2
    obtain ⟨k, ek⟩ : ∃ k, c = (Xi B 246 5).toNat + k := ⟨c - (Xi B 246 5).toNat, by omega⟩
    have uc : ∀ j, Xi U1 (276 + c) j = Xi W (276 + c) j := fun j => eUx _ _ (by omega) (by omega)
    rw [uc] at c3
    rw [ek] at c3
    have x := ix k (by omega) c3
    rw [← ek] at x
    obtain ⟨x1, x2, L, x3, x4, x5⟩ := x
    have eb : Xi T 906 = Xi D' 906 := funext (fun j => kDT.x 906 rfl j)
    have st := v.2.2.2.2.1.1
    have kBU : KEP [(245, 246), (902, 904)] [(20, 1)] B U1 := FR3.kep rfl
    have t3 : TX3 B := rst_3 st
    have txs : ∀ j, Xi U1 (txr U1) j = Xi B (txr B) j := fun j => by
      have e : txr U1 = txr B := by unfold txr; rw [(kBU.2 (20, 1) (by decide)).2.2]
      rw [e]
      rcases t3 with z | z | z <;> (rw [z]; exact kBU.x _ rfl j)
    unfold IXC1
    rw [uc, uc, uc, eb]
    have e5 : Xi B 876 5 = Xi V 876 5 := kVB.f 876 5 (by decide)
    refine ⟨⟨x1.1, x1.2.1, by omega⟩, x2, fun i i0 i1 => by rw [txs]; exact st.2 _ (by omega), L, x3, by rw [e8U]; exact x4, ?_⟩
    exact icx_g (fun o q t p z => inx_g (U1 := U1) (lxg_k (kDT.le rfl (by decide))) a1 (kDT.le rfl (by decide)) z) okc gWU.2 x2 L x4 x5
  · rw [e7U, ← a45] at c3 c6
    have uc : ∀ j, Xi U1 (276 + ((Xi A 246 5).toNat + k)) j = Xi B (276 + ((Xi A 246 5).toNat + k)) j := fun j => by
      rw [eUx _ _ (by omega) (by omega)]
      exact wold _ j (by omega)
    rw [uc] at c3 c6
    refine nmu (Classical.byContradiction fun z => ?_)
    have z : Xi B 895 4 = -1 := Classical.byContradiction z
    rw [FB2.x 895 4 rfl] at z
    have tgd : TGD A B (if ty7 A (Xi A 899 5) = 37 then Xi A 899 5 + 1 else -1) k := by
      obtain ⟨s1, s2, _⟩ := tss
      by_cases q : (if ty7 A (Xi A 899 5) = 37 then Xi A 899 5 + 1 else -1) = -1
      · have := (s1 q).2.2.1; omega
      · obtain ⟨n, _, _, _, t, _⟩ := s2 q rfl
        exact t.2.2.1 k (by have := t.1; omega)
    obtain ⟨ff, nn, w, h, t, gg, m, y, cm⟩ := tgd
    rw [cm.1] at c3
    rw [cm.2.2.2.2.2.2] at c6
    subst c3; subst c6
    rcases y with ⟨_, _, e, _⟩ | ⟨_, _, _, e⟩ | ⟨_, _, _, _, _, _, ⟨⟨_, _, e⟩, _⟩ | ⟨_, _, _, _, _, e⟩⟩
    · omega
    · omega
    · exact who_m2 e.symm z
    · omega
  · have a45' : Xi V 246 5 ≤ Xi A 246 5 := by
      by_cases q : s = 6
      · rw [(h6 q).2.2.1]; exact Int.le_refl _
      · obtain ⟨a, o, k, n, _, _, ⟨_, _, _, z4⟩, _, _, z5, _⟩ := hn6 q
        rw [z5]; omega
    rw [eUx _ _ (by omega) (by omega), wold c j (by omega), bold c j (by omega)]
    exact hold c j hc
  · rw [eUx _ _ (by omega) (by omega), wr r j hr (by omega), FB2.x (248 + r) j (by simp [md_rr_tests__p, mdf, inR]; omega)]
    exact kru r j hr hn
  · have k2 : KEP [] [(246, 2)] V B := KEP.tr (F1.kep rfl) (FB2.kep rfl)
    have e2 := k2.f 246 2 (by decide)
    have v2 : 0 ≤ Xi V 246 2 ∧ Xi V 246 2 ≤ 24 := hV.c 246 2
    rw [eU, Xi_same (by unfold rg; omega), e2]
end
section
/-! the readings go on: what the class keeps of texts and tests stays good -/
theorem sk_ge {B : Nat → Int} {e : Int} : ∀ (n : Nat) (p : Int), 0 ≤ p → e - p ≤ n → p ≤ sk7 B e p
  | n, p, h0, hn => by
    by_cases q : p < e
    · rw [sk7_u h0 q]
      cases n with
      | zero => omega
      | succ n =>
        split
        · split
          · exact Int.le_refl _
          · have r := cl7_r (B := B) (e := e) h0
            have := sk_ge (B := B) (e := e) n (cl7 B e p + 1) (by omega) (by omega)
            omega
        · split
          · have := sk_ge (B := B) (e := e) n (p + 1) (by omega) (by omega)
            omega
          · exact Int.le_refl _
    · rw [sk7_e (by omega)]; exact Int.le_refl _
theorem tlp_x {V V' X : sS} {f n : Nat} {e : Int} {B K : Nat → Int} (sc : SCX V V' f) (kx : KEP [(907, 911)] [] X V') (cu : CUT B K e X n) (le : (f : Int) + Xi V 876 7 ≤ n) : TLP V := fun i h0 h1 h2 => by
  obtain ⟨_, _, t3⟩ := ty_102 h2
  obtain ⟨a1, a2, _, _, a5⟩ := sc.1 i.toNat (by omega)
  obtain ⟨b1, _⟩ := sc.1 (i + 1).toNat (by omega)
  rw [kx.x 908 rfl] at a1 b1
  rw [kx.x 907 rfl, t3] at a2
  have a5 := a5 t3
  rw [kx.x 909 rfl] at a5
  unfold pc7
  rw [if_pos ⟨h0, by omega⟩, if_pos ⟨by omega, h1⟩, ← a5, ← a1, ← b1]
  obtain ⟨r1, r2, r3, r4⟩ := cu.1.2.1 (f + i.toNat) (by omega)
  have nx := (cu.1.2.2 (f + i.toNat) (by omega)).1
  have e5 : m7 K B e (Xi X 908 (f + i.toNat)) = 5 := by rw [← r3, a2]; rfl
  have q1 : q7 B e (Xi X 908 (f + i.toNat)) ≠ -1 := fun z => by
    unfold m7 at e5
    rw [if_pos z] at e5
    omega
  have b34 : B (Xi X 908 (f + i.toNat)).toNat = 34 ∧ lt7 (B (Xi X 908 (f + i.toNat)).toNat) = 0 ∧ ¬ (48 ≤ B (Xi X 908 (f + i.toNat)).toNat ∧ B (Xi X 908 (f + i.toNat)).toNat ≤ 57) := by
    unfold m7 at e5
    rw [if_neg q1] at e5
    by_cases l : lt7 (B (Xi X 908 (f + i.toNat)).toNat) ≠ 0
    · rw [if_pos l] at e5
      split at e5
      · omega
      · next z =>
        have r := kyF_rn (K := K) (c := c32 B (Xi X 908 (f + i.toNat)).toNat (we7 B e (Xi X 908 (f + i.toNat)) - Xi X 908 (f + i.toNat)).toNat) 55 0 (Int.le_refl 0)
        unfold ky7 at e5 z
        omega
    · rw [if_neg l] at e5
      by_cases d : 48 ≤ B (Xi X 908 (f + i.toNat)).toNat ∧ B (Xi X 908 (f + i.toNat)).toNat ≤ 57
      · rw [if_pos d] at e5; omega
      · rw [if_neg d] at e5
        by_cases c : B (Xi X 908 (f + i.toNat)).toNat = 34
        · exact ⟨c, by omega, d⟩
        · rw [if_neg c] at e5
          exfalso
          refine q1 ?_
          unfold q7
          rw [if_neg l, if_neg d, if_neg c, if_neg (by omega)]
  have e9 := (r4 q1).2.2 b34.1
  have eq : q7 B e (Xi X 908 (f + i.toNat)) = te7 B e (Xi X 908 (f + i.toNat) + 1) + 1 := by
    unfold q7 at q1 ⊢
    rw [if_neg (by omega), if_neg b34.2.2, if_pos b34.1] at q1 ⊢
    split at q1
    · next z => rw [if_pos z]
    · exact absurd rfl q1
  rw [eq] at nx
  have h9 : 0 ≤ Xi X 908 (f + i.toNat) := r1
  rw [show f + (i + 1).toNat = f + i.toNat + 1 by omega, nx, e9]
  have t0 := teF_le (B := B) (e := e) (e - (Xi X 908 (f + i.toNat) + 1)).toNat (Xi X 908 (f + i.toNat) + 1)
  have t1 : Xi X 908 (f + i.toNat) + 1 ≤ te7 B e (Xi X 908 (f + i.toNat) + 1) := t0
  have g := sk_ge (B := B) (e := e) (e - (te7 B e (Xi X 908 (f + i.toNat) + 1) + 1)).toNat (te7 B e (Xi X 908 (f + i.toNat) + 1) + 1) (by omega) (by omega)
  omega
theorem inx_k {S S1 : sS} {E o q t p : Int} (k : KEP [(906, 907), (911, 917)] [(904, 15)] S S1) (h : INX S E o q t p) : INX S1 E o q t p := by
  obtain ⟨T, L, k1, w1, q1, ⟨⟨r1, r3⟩, r2⟩, i⟩ := h
  have eb : Xi S1 906 = Xi S 906 := funext (fun j => k.x 906 rfl j)
  have kW : KEP [(906, 907), (911, 917)] [(904, 15)] S1 (wWS S1 T) := wws_k rfl rfl (by simp)
  have kT : KEP [(906, 907), (911, 917)] [(904, 15)] S (wWS S1 T) := k.tr kW
  refine ⟨wWS S1 T, L, kW, by rw [eb]; exact w1, by rw [eb]; exact q1, ⟨⟨by rw [wws_160]; exact r1, fun j hj => ?_⟩, r2⟩, int_w (T := T) ⟨wws_160, fun j _ => wws_994, fun j => ?_, fun m x _ _ => ?_, ?_, fun j => ?_, fun j => ?_⟩ (by omega) i⟩
  · rw [wws_994, r3 j hj]; unfold icr; rw [eb]
  · rw [kT.j 911 rfl, k1.j 911 rfl]
  · rw [kT.x 912 rfl, k1.x 912 rfl, kT.j 913 rfl, k1.j 913 rfl, kT.j 913 rfl, k1.j 913 rfl, kT.j 913 rfl, k1.j 913 rfl, kT.x 916 rfl, k1.x 916 rfl, kT.x 914 rfl, k1.x 914 rfl, kT.x 915 rfl, k1.x 915 rfl]
    exact ⟨rfl, rfl, rfl, rfl, rfl, rfl, rfl⟩
  · rw [kT.f 904 15 (by decide), k1.f 904 15 (by decide)]
  · rw [kT.x 914 rfl, k1.x 914 rfl]
  · rw [kT.x 915 rfl, k1.x 915 rfl]
/-- it depends on what both have told alone -/
theorem ixc_k {U V X Y : sS} (a0 : RLA U X) (t3 : TX3 U) (a : KEP [(19, 20), (21, 22), (245, 246), (248, 272), (274, 876), (902, 904)] [(20, 1), (246, 2), (246, 8)] U V) (b : KEP [(906, 907), (911, 919), (929, 930)] [(904, 15), (904, 19), (904, 32)] X Y) (h : IXC U X) : IXC V Y := fun r c hr h1 h2 h3 => by
  have e2 := a.f 246 2 (by decide)
  have hr0 : (r : Int) < Xi U 246 2 := by omega
  have r24 : r < 24 := by have := a0.2.2.2.1.2.2.2.1; omega
  have rr : ∀ j, Xi V (248 + r) j = Xi U (248 + r) j := fun j => a.x _ (inK_i (a := 248) (b := 272) (by simp) (by omega) (by omega)) j
  have e0 : rl0 V r = rl0 U r := by unfold rl0; rw [rr, rr, rr]
  have ru := a0.2.2.2.2.2 r hr0
  have u4 := ru.2.2.2.2.1
  have u5 := ru.2.2.1
  rw [e0] at h1 h2
  rw [rr] at h2
  have c6 : c < 600 := by
    have k1 := a0.2.2.2.1.1
    have k2 := a0.2.2.2.1.2.2.2.1
    have k3 := a0.1.2.2.1.2.2.2.1
    have u6 := ru.2.2.2.1
    unfold rl0 at h1 h2
    omega
  have ce : ∀ j, Xi V (276 + c) j = Xi U (276 + c) j := fun j => a.x _ (inK_i (a := 274) (b := 876) (by simp) (by omega) (by omega)) j
  rw [ce] at h3
  obtain ⟨y1, y2, y3, L, y4, y5, y6⟩ := h r c hr0 h1 h2 h3
  have eb : Xi Y 906 = Xi X 906 := funext (fun j => b.x 906 rfl j)
  have txs : ∀ j, Xi V (txr V) j = Xi U (txr U) j := fun j => by
    have e : txr V = txr U := by unfold txr; rw [(a.2 (20, 1) (by decide)).2.2]
    rw [e]
    rcases t3 with z | z | z <;> (rw [z]; exact a.x _ rfl j)
  have okk : ∀ t p : Int, OKC U X r t p → OKC V Y r t p := fun t p k => by
    obtain ⟨k1, k2, k3, k4⟩ := k
    have hk : ∀ x z : Int, hsR Y x z = hsR X x z := fun x z => hsN_k (fun j => b.x 917 rfl j) (fun j => b.x 929 rfl j) 17 x
    unfold OKC nMU nkU
    rw [rr, rr, rr, a.x 19 rfl, a.x 21 rfl, b.f 904 19 (by decide), b.f 904 32 (by decide), hk, b.x 918 rfl]
    exact ⟨k1, k2, k3, k4⟩
  unfold IXC1
  rw [ce, ce, ce, eb, a.f 246 8 (by decide)]
  exact ⟨y1, y2, fun i i0 i1 => by rw [txs]; exact y3 i i0 i1, L, y4, y5, icx_g (fun o q t p z => inx_k (b.le rfl (by decide)) z) okk (fun j _ => ⟨a.x 274 rfl j, a.x 275 rfl j⟩) y2 L y5 y6⟩
theorem ixc1_y {U X Y : sS} {r c : Nat} (b : KEP [(906, 907), (911, 919), (929, 930)] [(904, 15), (904, 19), (904, 32)] X Y) (h : IXC1 U X r c) : IXC1 U Y r c := by
  obtain ⟨y1, y2, y3, L, y4, y5, y6⟩ := h
  have eb : Xi Y 906 = Xi X 906 := funext (fun j => b.x 906 rfl j)
  have okk : ∀ t p : Int, OKC U X r t p → OKC U Y r t p := fun t p k => by
    obtain ⟨k1, k2, k3, k4⟩ := k
    have hk : ∀ x z : Int, hsR Y x z = hsR X x z := fun x z => hsN_k (fun j => b.x 917 rfl j) (fun j => b.x 929 rfl j) 17 x
    unfold OKC
    rw [b.f 904 19 (by decide), b.f 904 32 (by decide), hk, b.x 918 rfl]
    exact ⟨k1, k2, k3, k4⟩
  unfold IXC1
  rw [eb]
  exact ⟨y1, y2, y3, L, y4, y5, icx_g (fun o q t p z => inx_k (b.le rfl (by decide)) z) okk (fun j _ => ⟨rfl, rfl⟩) y2 L y5 y6⟩
theorem kep_sy {ks fs : List (Nat × Nat)} {S T : sS} (h : KEP ks fs S T) : KEP ks fs T S := ⟨fun c j q => ⟨(h.1 c j q).1.symm, (h.1 c j q).2.1.symm, (h.1 c j q).2.2.symm⟩, fun x q => ⟨(h.2 x q).1.symm, (h.2 x q).2.1.symm, (h.2 x q).2.2.symm⟩⟩
/-- PLACE tests that speak of the noun -/
def PLC (U : sS) : Prop := ∀ r k : Nat, (r : Int) < Xi U 246 2 → (k : Int) < Xi U (248 + r) 5 → Xi U (276 + ((Xi U (248 + r) 7 + Xi U (248 + r) 4).toNat + k)) 0 = 5 → Xi U (276 + ((Xi U (248 + r) 7 + Xi U (248 + r) 4).toNat + k)) 6 = -2 → nMU U r
theorem plc_g {V U1 S S1 : sS} (x : PLC V) (a : RLA V S) (a1 : RLW U1 S1) (rl : RUL V) (c2 : ∀ r j : Nat, (r : Int) < Xi V 246 2 → Xi U1 (248 + r) j = Xi V (248 + r) j) (cc : ∀ c j : Nat, (c : Int) < Xi V 246 5 → c < 600 → Xi U1 (276 + c) j = Xi V (276 + c) j) (gr : GR S1 S) : ∀ r k : Nat, (r : Int) < Xi V 246 2 → (k : Int) < Xi U1 (248 + r) 5 → Xi U1 (276 + ((Xi U1 (248 + r) 7 + Xi U1 (248 + r) 4).toNat + k)) 0 = 5 → Xi U1 (276 + ((Xi U1 (248 + r) 7 + Xi U1 (248 + r) 4).toNat + k)) 6 = -2 → nMU U1 r := fun r k hr hk h5 h6 => by
  have rr : ∀ j, Xi U1 (248 + r) j = Xi V (248 + r) j := fun j => c2 r j hr
  rw [rr] at hk
  rw [rr, rr] at h5 h6
  obtain ⟨⟨u1, u2, u3, _⟩, _⟩ := rl r hr
  have ru := a.2.2.2.2.2 r hr
  have u4 := ru.2.2.2.2.1
  have u5 := ru.2.2.1
  have u6 := ru.2.2.2.1
  rw [cc _ _ (by omega) (by omega)] at h5 h6
  have z := x r k hr hk h5 h6
  unfold nMU at z ⊢
  have hd := ru.2.1
  rcases hd with ⟨_, ⟨d1, _⟩, _⟩ | ⟨_, aa, oo, kk, nn, ⟨d1, d2, d3, _⟩, _, ⟨r1, _⟩, _⟩
  · omega
  · rw [rr, d1, gr_19 a.1 a1 gr aa.toNat (by omega)]
    rw [d1] at z
    exact z
theorem plc_k {U V : sS} (a0 : Xi U 246 2 ≤ 24) (rl : RUL V) (u : ∀ r : Nat, (r : Int) < Xi U 246 2 → 0 ≤ Xi U (248 + r) 7 ∧ 0 ≤ Xi U (248 + r) 4 ∧ 0 ≤ Xi U (248 + r) 6) (a : KEP [(19, 20), (248, 876)] [(246, 2)] U V) (h : PLC U) : PLC V := fun r k hr hk h5 h6 => by
  have e2 := a.f 246 2 (by decide)
  have hr0 : (r : Int) < Xi U 246 2 := by omega
  have rr : ∀ j, Xi V (248 + r) j = Xi U (248 + r) j := fun j => a.x _ (inK_i (a := 248) (b := 876) (by simp) (by omega) (by omega)) j
  obtain ⟨⟨u1, u2, u3, _⟩, _⟩ := rl r hr
  rw [rr, rr, rr, rr] at u2
  have u4 := u r hr0
  rw [rr] at hk
  rw [rr, rr] at h5 h6
  have ce : ∀ j, Xi V (276 + ((Xi U (248 + r) 7 + Xi U (248 + r) 4).toNat + k)) j = Xi U (276 + ((Xi U (248 + r) 7 + Xi U (248 + r) 4).toNat + k)) j := fun j => a.x _ (inK_i (a := 248) (b := 876) (by simp) (by omega) (by omega)) j
  rw [ce] at h5 h6
  have z := h r k hr0 hk h5 h6
  unfold nMU at z ⊢
  rw [rr, a.x 19 rfl]
  exact z
/-- what the class keeps, between sentences -/
def EXI (U X : sS) (a : Int) : Prop := IXC U X ∧ PLC U ∧ 3 * Xi U 246 8 ≤ a ∧ (Xi X 922 0 ≠ -1 ∧ Xi X 928 0 = 1)
theorem exi_s {U U1 X S1 : sS} {ts n : Nat} {e a a1 : Int} (x : EXI U X a) (tx : TXB U X ts n e) (a0 : RLA U X) (aE : RLA U1 S1) (u8 : Xi U1 876 8 = 0) (lt : a < a1) (std : STD U U1 X S1 ts n e a a1) : EXI U1 S1 a1 := by
  obtain ⟨V, V', T, W', f, tle, stb, kUV, kVU, ⟨kXV, kVT⟩, vg, gr, kTW, kWS, ⟨hf, hp, kTk⟩, q1, q2, q3, bE, nT⟩ := std
  obtain ⟨x1, x2, x3, x4⟩ := x
  have cev := tle.1
  have aV := cev.1
  have hV : HI V := cev.2.1.1
  have rl : RUL V := cev.2.1.2.2.2.2.1
  have bV : ABV V' := tle.2.2.1.2.1.2
  have t3U : TX3 U := a0.2.1
  have t3V : TX3 V := aV.2.1
  have i1 : IXC V V' := ixc_k a0 t3U (kUV.le rfl (by decide)) (kXV.le rfl (by decide)) x1
  have i2 : PLC V := plc_k (by have := a0.2.2.2.1.2.2.2.1; omega) rl (fun r hr => by
    have ru := a0.2.2.2.2.2 r hr
    have := ru.2.2.2.2.1
    have := ru.2.2.2.1
    omega) (kUV.le rfl (by decide)) x2
  have e8V : Xi V 246 8 = Xi U 246 8 := kUV.f 246 8 (by decide)
  have gV : GR S1 V' := GR.tr (gr_k (kVT.le rfl (by decide))) (GR.tr gr (gr_k (kWS.le rfl (by decide))))
  have vgV : VG V' S1 := vg_post (vg_pre (kVT.le rfl (by decide)) vg) (kWS.le rfl (by decide))
  have k6 : KEP [(906, 907), (911, 912)] [] V' S1 := KEP.tr (kVT.le rfl (by decide)) (KEP.tr kTW (kWS.le rfl (by decide)))
  have txs : ∀ j, Xi U1 (txr U1) j = Xi V (txr V) j := fun j => by
    have e : txr U1 = txr V := by unfold txr; rw [(kVU.2 (20, 1) (by decide)).2.2]
    rw [e]
    rcases t3V with z | z | z <;> (rw [z]; exact kVU.x _ rfl j)
  have fact : Xi S1 922 0 ≠ -1 ∧ Xi S1 928 0 = 1 := by
    have c3 := aV.1.2.2.1.2.2.2.1
    have c5 := aV.1.2.2.1.2.2.2.2.2.1
    have y1 := (gV.2.1 0 (by omega)).1
    have y2 := gV.2.2.1 0 (by omega)
    rw [y1, y2, kXV.x 922 rfl, kXV.x 928 rfl]
    exact x4
  have pl0 : pc7 V 0 = a := by
    unfold pc7
    have l1 := cev.2.2.2.2.1.1
    rw [if_pos ⟨Int.le_refl 0, by omega⟩]
    have t := (cev.2.2.2.1.1 0 (by omega)).1
    rw [kTk.x 908 rfl, Nat.add_zero, hp] at t
    exact t.symm
  have i8 : 0 ≤ Xi U 246 8 := a0.2.2.2.1.2.2.2.2
  have cut := tx.2.2.2.2.1
  have tk := tx.2.2.2.2.2
  have tl : TLP V := tlp_x cev.2.2.2.1 kTk cut q3
  rcases stb.2.2 u8 with bk | ⟨⟨ru, N, K, s, hd, g, rf, ⟨eru, hru, hK⟩, hs, _, n94, n98⟩, eW⟩
  · obtain ⟨⟨b2, b8⟩, bi, br, bc⟩ := bk
    have l24 : Xi V 246 2 ≤ 24 := by have := aV.2.2.2.1.2.2.2.1; omega
    have c2 : ∀ r j : Nat, (r : Int) < Xi V 246 2 → Xi U1 (248 + r) j = Xi V (248 + r) j := fun r j hr => br r j (by omega)
    refine ⟨fun r c hr h1 h2 h3 => ?_, fun r k hr hk h5 h6 => ?_, by omega, fact⟩
    · exact ixc_g i1 aV aE.1 rl c2 bc ⟨by omega, fun j _ => bi j⟩ k6 txs gV vgV bV bE r c (by omega) h1 h2 h3
    · exact plc_g i2 aV aE.1 rl c2 bc gV r k (by omega) hk h5 h6
  · have eW := eW nT
    subst eW
    have aT : RVO U1 W' := aE.1.1.k KEP.rf (kep_sy (kWS.le rfl (by decide)))
    obtain ⟨y1, ⟨i, i0, il, y2⟩, y3, y4, y5, y6, y7, y8⟩ := rul_x rf hru hK hV (cev_5 cev) tl ⟨by omega, by rw [pl0]; omega⟩ aT
    have c2 : ∀ r j : Nat, (r : Int) < Xi V 246 2 → Xi U1 (248 + r) j = Xi V (248 + r) j := fun r j hr => y6 r j (by omega) (by omega)
    have pi : pc7 V i < a1 := by
      unfold pc7
      rw [if_pos ⟨i0, il⟩]
      have t := (cev.2.2.2.1.1 i.toNat (by omega)).1
      rw [kTk.x 908 rfl] at t
      rw [← t]
      by_cases z : (f : Int) + Xi V 876 7 < n
      · rw [← q1 z]
        exact tk_mono tk _ _ (by omega) (by omega)
      · have u := q2 (by omega)
        have w := tk_mono tk n (f + i.toNat) (by omega) (Nat.le_refl _)
        rw [cut.2.2.1] at w
        omega
    refine ⟨fun r c hr h1 h2 h3 => ?_, fun r k hr hk h5 h6 => ?_, by omega, fact⟩
    · by_cases q : r = ru
      · subst q
        exact ixc1_y (kWS.le rfl (by decide)) (y3 c h1 h2 h3)
      · exact ixc_g i1 aV aE.1 rl c2 (fun c j hc _ => y5 c j hc) y1 k6 txs gV vgV bV bE r c (by omega) h1 h2 h3
    · by_cases q : r = ru
      · subst q
        exact y4 k (by omega) h5 h6
      · exact plc_g i2 aV aE.1 rl c2 (fun c j hc _ => y5 c j hc) gV r k (by omega) hk h5 h6

/-! both readings, with what the class keeps -/
/-- where the player is put at the end of a read (reference) -/
def PLD (R S1 : sS) : Prop := (S1 = R ∧ (Xi R 919 0 = 0 → ∀ o : Nat, (o : Int) < Xi R 904 19 → blR R (Xi R 918 o) 1 = 0)) ∨ (Xi R 919 0 = 0 ∧ ∃ o : Nat, (o : Int) < Xi R 904 19 ∧ blR R (Xi R 918 o) 1 ≠ 0 ∧ (∀ j : Nat, j < o → blR R (Xi R 918 j) 1 = 0) ∧ S1 = uI (uI R 919 0 (Int32.ofInt 1)) 920 0 (Int32.ofInt o))
def JO2 (ts n : Nat) (e : Int) (U X : sS) (a k : Int) : Prop := JOK ts n e U X a k ∧ EXI U X a
theorem st_step2 {U U1 X S1 : sS} {ts n : Nat} {e a a1 k : Int} (j : JO2 ts n e U X a k) (ht : tp ts) (c : CST ts U a U1 a1) (r : RSS n X S1) : SMF U1 S1 ∨ (JO2 ts n e U1 S1 a1 (k + 1) ∧ a < a1) := by
  rcases st_mid j.1 ht c r with h | ⟨⟨h1, h2⟩, h3⟩
  · exact Or.inl h
  · exact Or.inr ⟨⟨h1, exi_s j.2 j.1.2.1 j.1.2.2.1 h1.2.2.1 h1.1.1 h2 h3⟩, h2⟩
theorem exi_0 {Q U0 B : sS} {ts n : Nat} {a : Int} (op : OPN U0 ts) (bg : BGS Q B n) (ha : 0 ≤ a) : EXI U0 (rs0 B) a := by
  have kc := open_kc op
  obtain ⟨C, hC, _, ev, FB⟩ := bg
  have kr : KRF (rs0 B) := krf_k (kn_r hC ev) (fun k j h => rs0_x h) (fun k j => rfl)
  have e2 := fc246_2 kc
  refine ⟨fun r c hr => by omega, fun r k hr => by omega, by rw [fc246_8 kc]; omega, ?_, ?_⟩
  · rw [fr922 kr 0 (by decide)]; decide
  · rw [fr928 kr 0 (by decide)]; rfl
theorem rd_all2 {ts n : Nat} {e : Int} (ht : tp ts) : ∀ (N K : Nat) {U X U' R : sS} {a a' k : Int}, JO2 ts n e U X a k → k ≤ a → PCS ts N U a U' a' → RCS n K X R → ¬ (a' < Xi U' 876 5 ∧ k + N < Xi U' 876 5 ∧ Xi U' 876 8 = 0) → ¬ (Xi R 904 62 = 0 ∧ Xi R 907 (Xi R 904 8).toNat ≠ 1) → N = K ∧ (SMF U' R ∨ (JO2 ts n e U' R a' (k + N) ∧ Xi R 904 8 = n))
  | 0, K, U, X, U', R, a, a', k, j, ka, pc, rc, st, sr => by
    obtain ⟨rfl, rfl⟩ := pc
    have j' := j
    obtain ⟨⟨f0, g0, hk⟩, x, a0, ob, f, e8, fn, p1, p2⟩ := j.1
    have he := x.2.2.2.1
    have tk1 := x.2.2.2.2.2.2.1
    have ef : f = n := by
      by_cases q : f < n
      · have u := (p1 q).2
        exact absurd ⟨by omega, by omega, f0⟩ st
      · omega
    have o1 : Xi X 907 (Xi X 904 8).toNat = 1 := by rw [e8, ef, show ((n : Nat) : Int).toNat = n by omega]; exact tk1
    cases K with
    | zero =>
      have rc : R = X := rc
      subst rc
      refine ⟨rfl, Or.inr ⟨?_, by omega⟩⟩
      rw [show k + ((0 : Nat) : Int) = k by omega]
      exact j'
    | succ K =>
      obtain ⟨Y, s, _⟩ := rc
      exact absurd o1 s.1.2.2.2.2.2.2.2.2.1
  | N + 1, K, U, X, U', R, a, a', k, j, ka, pc, rc, st, sr => by
    obtain ⟨X1, c, cs, pc⟩ := pc
    have j' := j
    obtain ⟨⟨f0, g0, hk⟩, x, a0, ob, f, e8, fn, p1, p2⟩ := j.1
    have he := x.2.2.2.1
    have tkn := x.2.2.2.2.2.2.2.1
    have ca := (cst_0 cs).1
    cases K with
    | zero =>
      have rc : R = X := rc
      subst rc
      exfalso
      refine sr ⟨g0, fun q => ?_⟩
      rw [e8, show ((f : Nat) : Int).toNat = f by omega] at q
      by_cases w : f < n
      · exact tkn f w q
      · have u := p2 (by omega)
        omega
    | succ K =>
      obtain ⟨Y, s, rc⟩ := rc
      rcases st_step2 j' ht cs s with m | ⟨m, lt⟩
      · have n0 : N = 0 := by
          cases N with
          | zero => rfl
          | succ N =>
            obtain ⟨_, _, c2, _⟩ := pc
            exact absurd (cst_0 c2).2 m.1
        have k0 : K = 0 := by
          cases K with
          | zero => rfl
          | succ K =>
            obtain ⟨_, s2, _⟩ := rc
            have w := s2.1.2.2.2.2.2.2.2.2.2
            rw [m.2.1] at w
            exact absurd w m.1
        subst n0 k0
        obtain ⟨rfl, rfl⟩ := pc
        have rc : R = Y := rc
        subst rc
        exact ⟨rfl, Or.inl m⟩
      · obtain ⟨h1, h2⟩ := rd_all2 ht N K m (by omega) pc rc (by rw [show k + 1 + (N : Int) = k + ((N + 1 : Nat) : Int) by omega]; exact st) sr
        rw [show k + 1 + (N : Int) = k + ((N + 1 : Nat) : Int) by omega] at h2
        exact ⟨by omega, h2⟩
/-- what both have read: the same fault, or both worlds agree -/
def RDD2 (U R : sS) (N : Int) : Prop := (SMF U R ∨ (Xi U 876 8 = 0 ∧ Xi R 904 62 = 0 ∧ Xi R 904 61 = N ∧ RLA U R ∧ ∃ a : Int, EXI U R a))
theorem rd_two2 {S Q U R : sS} {ts : Nat} {N : Int} (ht : tp ts) (e1 : Xi S 0 10 = Xi Q 904 1) (ky : KEYR (Xj S 880) (Xj Q 911)) (yt : ∀ j : Nat, (j : Int) < Xi S 0 10 → Xi S ts j = Xi Q 905 j) (kS : (∀ j : Nat, Xj U 880 j = Xj S 880 j) ∧ (∀ j : Nat, Xi U 902 j = Xi S 902 j) ∧ ∀ j : Nat, Xi U 903 j = Xi S 903 j) (r : RTX S ts N U) (s : SRY Q R) : (N = 0 → Xi U 876 8 = 0 ∧ Xi U 876 5 = Xi S 0 10 ∧ Xi R 904 62 = 2 ∧ Xi R 904 63 = Xi S 0 10) ∧ (N ≠ 0 → 0 < N ∧ RDD2 U R N) := by
  obtain ⟨a, ⟨U0, a0, n0, ⟨hU, _, s20⟩, op, u5, u8, ea, pc⟩, st⟩ := r
  obtain ⟨n, B, hB, bg, _, _, ry, sr⟩ := s
  have kU := pch_f _ pc
  have k0 : Xj U0 880 = Xj S 880 := funext fun j => (kU.j 880 rfl j).symm.trans (kS.1 j)
  have kt : Xi U0 ts = Xi S ts := by
    funext j
    rcases ht with q | q <;> rw [q]
    · exact (kU.x 902 rfl j).symm.trans (kS.2.1 j)
    · exact (kU.x 903 rfl j).symm.trans (kS.2.2 j)
  have j0 : JO2 ts n (Xi S 0 10) U0 (rs0 B) (sk7 (Xi U0 ts) (Xi S 0 10) 0) 0 := ⟨jok_0 ht hU op u5 u8 s20 hB bg e1.symm (fun j hj => by rw [kt]; exact yt j hj) (by rw [k0]; exact ky), exi_0 op bg (sk_ge _ 0 (Int.le_refl 0) (Int.self_le_toNat _))⟩
  rw [u5] at ea
  rw [← ea] at j0
  have tkn := j0.1.2.1.2.2.2.2.2
  have rb : Xi (rs0 B) 907 0 = Xi B 907 0 := rs0_x (fun w => absurd w (by decide))
  have n1 : Xi B 907 0 = 1 ↔ n = 0 := by
    rw [← rb]
    constructor
    · intro q
      by_cases w : n = 0
      · exact w
      · exact absurd q (tkn.2.2.1 0 (by omega))
    · intro q
      have t := tkn.2.1
      rw [q] at t
      exact t
  have h10 : Xi U 876 5 = Xi S 0 10 := by rw [kU.f 876 5 (by decide)]; exact u5
  rcases ry with ⟨w, K, rc⟩ | ⟨w, fl⟩
  · -- there are tokens: both go on
    have nn : n ≠ 0 := fun q => w (n1.2 q)
    obtain ⟨g1, g2⟩ := rd_all2 ht N.toNat K j0 (by
      obtain ⟨_, _, _, _, f, e8, fn, p1, p2⟩ := j0.1
      have z8 : Xi (rs0 B) 904 8 = 0 := Xi_same (by unfold rg; omega)
      have f0 : f = 0 := by omega
      have u := (p1 (by omega)).1
      have v := (hB.c 908 0).1
      rw [f0, rs0_x (fun w => absurd w (by decide))] at u
      have v : 0 ≤ Xi B 908 0 := v
      omega) (pch_s _ pc) (rc7_s _ rc) (by rw [show (0 : Int) + ((N.toNat : Nat) : Int) = N by omega]; exact st) sr
    rw [show (0 : Int) + ((N.toNat : Nat) : Int) = N by omega] at g2
    refine ⟨fun q => ?_, fun q => ⟨by omega, ?_⟩⟩
    · -- no sentence of the class, though there are tokens: it can't be
      exfalso
      have k0 : K = 0 := by omega
      subst k0
      have rc : R = rs0 B := rc
      have z8 : Xi (rs0 B) 904 8 = 0 := Xi_same (by unfold rg; omega)
      have z62 : Xi (rs0 B) 904 62 = 0 := j0.1.1.2.1
      rw [rc] at sr
      refine sr ⟨z62, ?_⟩
      rw [z8]
      show Xi (rs0 B) 907 0 ≠ 1
      rw [rb]
      exact w
    · rcases g2 with g2 | ⟨g2, _⟩
      · exact Or.inl g2
      · exact Or.inr ⟨g2.1.1.1, g2.1.1.2.1, g2.1.1.2.2, g2.1.2.2.1, _, g2.2⟩
  · -- no token at all
    have n0' := n1.1 w
    have ge : Xi S 0 10 ≤ a0 := by
      obtain ⟨_, _, _, _, f, e8, fn, _, p2⟩ := j0.1
      exact p2 (by omega)
    have nz : N = 0 := by
      by_cases q : N = 0
      · exact q
      · exfalso
        obtain ⟨m, hm⟩ : ∃ m, N.toNat = m + 1 := ⟨N.toNat - 1, by omega⟩
        have ps := pch_s _ pc
        rw [hm] at ps
        obtain ⟨_, _, cs, _⟩ := ps
        have := (cst_0 cs).1
        omega
    refine ⟨fun _ => ?_, fun q => absurd nz q⟩
    rw [nz] at pc
    obtain ⟨eU, _⟩ := pc
    obtain ⟨C, hC, ⟨tk, _, ct, e3, _⟩, _, FB⟩ := bg
    have p0 : Xi B 908 0 = Xi S 0 10 := by
      rw [FB.x 908 0 rfl]
      have t := ct.2.2.1
      rw [n0', e3] at t
      rw [t, e1]
    exact ⟨by rw [eU]; exact u8, h10, fl.2.2.1, by rw [fl.2.2.2]; exact p0⟩
/-- the read of both: the same answer; behind a fault both are fresh, with the same fault; else both worlds agree ahead of what ends a read -/
theorem read_same2 {S Q S1 Q1 : sS} {ts : Nat} {z w : Int} (ht : tp ts) (e1 : Xi S 0 10 = Xi Q 904 1) (ky : KEYR (Xj S 880) (Xj Q 911)) (yt : ∀ j : Nat, (j : Int) < Xi S 0 10 → Xi S ts j = Xi Q 905 j) (FS : FR md_rs_read__t S S1) (r : RFN S ts S1 z) (m : MRN Q Q1 w) : z = w ∧ ((KCF S1 ∧ KRF Q1 ∧ Xi S1 0 11 = Xi Q1 904 62 ∧ Xi S1 0 11 ≠ 0) ∨ (∃ U R Y : sS, (RLA U R ∧ ∃ a : Int, EXI U R a) ∧ (Xi U 876 8 = 0 ∧ Xi R 904 62 = 0) ∧ EVR m_wo_placePlayer [.ref 20] (uI U 0 11 (Int32.ofInt (Xi U 876 8))) none Y ∧ EVR m_bo_putInOrder [.ref 246] Y none S1 ∧ FR md_bo_putInOrder__b Y S1 ∧ FR md_wo_placePlayer__b (uI U 0 11 (Int32.ofInt (Xi U 876 8))) Y ∧ (HI (uI U 0 11 (Int32.ofInt (Xi U 876 8))) ∧ HI Y) ∧ PLD R Q1 ∧ w = Xi R 904 61)) := by
  have kA : KEP [(880, 881), (902, 904)] [] S S1 := FS.kep rfl
  have back : ∀ {U : sS}, KEP [(880, 881), (902, 904)] [] U S1 → (∀ j : Nat, Xj U 880 j = Xj S 880 j) ∧ (∀ j : Nat, Xi U 902 j = Xi S 902 j) ∧ ∀ j : Nat, Xi U 903 j = Xi S 903 j := fun k => ⟨fun j => (k.j 880 rfl j).symm.trans (kA.j 880 rfl j), fun j => (k.x 902 rfl j).symm.trans (kA.x 902 rfl j), fun j => (k.x 903 rfl j).symm.trans (kA.x 903 rfl j)⟩
  rcases r with ⟨n, X, ⟨U, W, rt, w0, w1, eX⟩, f8, ez, hX, ev, FX⟩ | ⟨Y, ⟨X, ⟨U, W, rt, w0, w1, eX⟩, f8, hX, evp, FP⟩, hY, evo, FO⟩
  · -- a fault of the class
    have kW : KEP [(880, 881), (902, 904)] [] U W := by
      by_cases q : n = 0
      · exact (w0 q).1.kep rfl
      · rw [w1 q]; exact KEP.rf
    have kX : KEP [(880, 881), (902, 904)] [] W X := by rw [eX]; exact (FR.wI (m := [(0, 1, 11, 12)]) FR.rf rfl).kep rfl
    have kU := back (KEP.tr kW (KEP.tr kX (FX.kep rfl)))
    have e8 : Xi X 876 8 = Xi W 876 8 := by rw [eX, Xi_ne (by omega)]
    have r8 : 0 ≤ Xi W 876 8 ∧ Xi W 876 8 ≤ 9 := by rw [← e8]; exact hX.c 876 8
    have e11 : Xi X 0 11 = Xi W 876 8 := by rw [eX]; exact Xi_same (by unfold rg; omega)
    have s11 : Xi S1 0 11 = Xi W 876 8 := by rw [FX.x 0 11 rfl]; exact e11
    have s9 : Xi S1 876 9 = Xi W 876 9 := by rw [FX.x 876 9 rfl, eX, Xi_ne (by omega)]
    rw [e8] at f8
    have kc := kn_c hX ev
    -- what the reference finds
    have key : ∀ R : sS, SRY Q R → Xi R 904 62 = Xi W 876 8 ∧ Xi R 904 63 = Xi W 876 9 := fun R sR => by
      obtain ⟨g0, g1⟩ := rd_two2 ht e1 ky yt kU rt sR
      by_cases q : n = 0
      · obtain ⟨a1, a2, a3, a4⟩ := g0 q
        obtain ⟨b1, b2⟩ := (w0 q).2.2.1 a1
        refine ⟨by rw [a3, b1], ?_⟩
        rw [a4, b2, ← a2]
        exact (if_neg (by omega)).symm
      · have eW := w1 q
        subst eW
        rcases (g1 q).2 with h | h
        · exact ⟨h.2.1, h.2.2⟩
        · exact absurd h.1 f8
    rcases m with ⟨R, sR, h62, ew, evr, FB⟩ | ⟨R, sR, h62, _⟩
    · obtain ⟨k1, k2⟩ := key R sR
      have q62 : Xi Q1 904 62 = Xi R 904 62 := FB.x 904 62 rfl
      have q63 : Xi Q1 904 63 = Xi R 904 63 := FB.x 904 63 rfl
      refine ⟨by rw [ez, ew, s9, q63, k2], Or.inl ⟨kc, kn_r (by obtain ⟨_, _, _, _, _, h, _⟩ := sR; exact h) evr, by rw [s11, q62, k1], by rw [s11]; exact f8⟩⟩
    · exact absurd ((key R sR).1.symm.trans h62) f8
  · -- none
    have e8 : Xi X 876 8 = Xi W 876 8 := by rw [eX, Xi_ne (by omega)]
    have z0 : z ≠ 0 := fun q => by
      obtain ⟨a, ⟨U0, a0, n0, _, _, _, u8, _, pc⟩, _⟩ := rt
      rw [q] at pc
      obtain ⟨eU, _⟩ := pc
      have b := ((w0 q).2.2.1 (by rw [eU]; exact u8)).1
      rw [e8, b] at f8
      exact absurd f8 (by decide)
    have eW := w1 z0
    subst eW
    have kX : KEP [(880, 881), (902, 904)] [] W X := by rw [eX]; exact (FR.wI (m := [(0, 1, 11, 12)]) FR.rf rfl).kep rfl
    have kU := back (KEP.tr kX (KEP.tr (FP.kep rfl) (FO.kep rfl)))
    rw [e8] at f8
    have key : ∀ R : sS, SRY Q R → Xi R 904 62 = 0 ∧ Xi R 904 61 = z ∧ RLA W R ∧ ∃ a : Int, EXI W R a := fun R sR => by
      obtain ⟨_, g1⟩ := rd_two2 ht e1 ky yt kU rt sR
      rcases (g1 z0).2 with h | h
      · exact absurd f8 h.1
      · exact h.2
    rcases m with ⟨R, sR, h62, _⟩ | ⟨R, sR, h62, ew, pl⟩
    · exact absurd (key R sR).1 h62
    · obtain ⟨k1, k2, k3⟩ := key R sR
      rw [eX] at evp FP hX
      exact ⟨by rw [ew, k2], Or.inr ⟨W, R, Y, k3, ⟨f8, k1⟩, evp, evo, FO, FP, ⟨hX, hY⟩, pl, ew⟩⟩
end
section
/-! what a read leaves, in both -/
theorem evr_q {d : Nat} {q : mT} {av : List Value} {S T : sS} {r : Option Value} {Q : pst} (h : Mt lay0 d q av S Q) (e : EVR q av S r T) : Q r T := by
  obtain ⟨N, r', S1', hr, hq⟩ := h
  obtain ⟨G, d', e⟩ := e
  have a := evd_mono (lay := lay0) (F := N) (F2 := max G N) (Nat.le_max_right _ _) d (max d d') (Nat.le_max_left _ _) q av S (r', S1') (hr N (Nat.le_refl _))
  have b := evd_mono (lay := lay0) (F := G) (F2 := max G N) (Nat.le_max_left _ _) d' (max d d') (Nat.le_max_right _ _) q av S (r, T) e
  rw [a] at b
  cases b
  exact hq
def cDU : List (Nat × Nat) := [(2, 20), (21, 22), (196, 220), (221, 272), (273, 876), (883, 888), (902, 904)]
theorem rlb_r {U U1 S S1 : sS} (a : RLB U S) (k : KEP cDU cBv U U1) (q : KEP cBS cBw S S1) (h8 : RBT U1 S1) (h10 : ROB U1 S1) (h12 : RAQ U1 S1) (h13 : RPR U1 S1) : RLB U1 S1 := by
  obtain ⟨⟨b1, b2, b3, b4, b5, b6, b7, b8, b9, b10, _, b12, b13, b14, _⟩, t3, cm, bk, df, ru⟩ := a
  have c : ∀ j, Xi U1 5 j = Xi U 5 j := k.x 5 rfl
  have d : ∀ j, Xi U 5 j ≤ Xi U1 5 j := fun j => by rw [c]; exact Int.le_refl _
  have c9 : ∀ j, Xi U1 9 j = Xi U 9 j := k.x 9 rfl
  have c19 : ∀ j, Xi U1 19 j = Xi U 19 j := k.x 19 rfl
  have kl : ∀ c j : Nat, 221 ≤ c → c < 876 → c ≠ 272 → Xi U1 c j = Xi U c j := fun c j x y z => by
    by_cases w : c < 272
    · exact k.x c (inK_i (a := 221) (b := 272) (by decide) x w) j
    · exact k.x c (inK_i (a := 273) (b := 876) (by decide) (by omega) y) j
  have e2 : Xi U1 246 2 = Xi U 246 2 := kl 246 2 (by omega) (by omega) (by omega)
  have e5 : Xi U1 246 5 = Xi U 246 5 := kl 246 5 (by omega) (by omega) (by omega)
  have e8 : Xi U1 246 8 = Xi U 246 8 := kl 246 8 (by omega) (by omega) (by omega)
  have s117 : Xi S1 904 117 = Xi S 904 117 := q.f 904 117 (by decide)
  have s125 : Xi S1 904 125 = Xi S 904 125 := q.f 904 125 (by decide)
  have s130 : Xi S1 904 130 = Xi S 904 130 := q.f 904 130 (by decide)
  have qs : ∀ c j : Nat, 969 ≤ c → c < 988 → Xi S1 c j = Xi S c j := fun c j x y => q.x c (inK_i (a := 969) (b := 988) (by decide) x y) j
  have tt : txr U1 = txr U := txr_k k (by decide)
  have tx : ∀ j, Xi U1 (txr U1) j = Xi U (txr U) j := fun j => by
    rw [tt]
    rcases t3 with e | e | e <;> rw [e]
    · exact kl 245 j (by omega) (by omega) (by omega)
    · exact k.x 902 rfl j
    · exact k.x 903 rfl j
  refine ⟨⟨b1.k (k.le rfl (by decide)) (q.le rfl (by decide)), b2.k (k.le rfl (by decide)), b3.k (k.le rfl (by decide)) (q.le rfl (by decide)), b4.k (c 0) (k.le rfl (by decide)) (q.le rfl (by decide)), b5.k (c 0) (c 4) (c 5) (d 1) (k.le rfl (by decide)) (q.le rfl (by decide)), b6.k (c 3) (d 0) (k.le rfl (by decide)) (q.le rfl (by decide)), b7.k (c 6) (d 0) (k.le rfl (by decide)) (q.le rfl (by decide)), h8, b9.k (c 7) (c 8) (d 6) (d 0) (k.le rfl (by decide)) (q.le rfl (by decide)), h10, trivial, h12, h13, b14.k b3 (d 2) (k.le rfl (by decide)) (q.le rfl (by decide)), trivial⟩, ?_, ?_, ?_, ?_, ?_⟩
  · unfold TX3; rw [tt]; exact t3
  · exact cm.k (k.le rfl (by decide)) (q.le rfl (by decide)) (d 8) (d 0) (fun i _ => c19 i) (fun _ _ _ => isKn_s7 (k.x 6 rfl))
  · unfold BKC; rw [e2, e5, e8, s117, s125, s130, c 3]; exact bk
  · intro a ha h11
    rw [c 3] at ha
    rw [k.x 11 rfl] at h11
    exact df1_w (df a ha h11) (k.x 12 rfl a) (k.x 13 rfl a) (q.x 923 rfl a) (by rw [e5]; exact Int.le_refl _) (by rw [s117]; exact Int.le_refl _) (fun c j hc => kl (276 + c) j (by omega) (by have := bk.1; have := bk.2.2.2.1; have := b3.2.2.2.1; omega) (by omega)) (fun i _ k x y => qs k i (by omega) (by omega)) (q.x 906 rfl) (fun j _ => d j) (fun p _ => c9 p) tx
  · intro r hr
    rw [e2] at hr
    have b24 := bk.2.2.2.1
    exact ruq_w (fun j => kl (248 + r) j (by omega) (by omega) (by omega)) (fun c j hc => kl (276 + c) j (by omega) (by have := bk.1; have := b3.2.2.2.1; omega) (by omega)) (by rw [e5]; exact Int.le_refl _) (fun c x y _ => qs c r (by omega) (by omega)) (fun i _ => qs 983 _ (by omega) (by omega)) (fun k j x y _ => qs k j (by omega) (by omega)) (fun k j x _ => by rcases x with e | e <;> rw [e] <;> exact qs _ j (by omega) (by omega)) (q.x 906 rfl) (by rw [s117]; exact Int.le_refl _) (by rw [s125]; exact Int.le_refl _) (fun j _ => d j) (fun p _ => c9 p) (fun a _ => c19 a) tx (ru r hr)
/-- nothing but the order of rules is changed -/
theorem rlb_rz {U U1 S : sS} (a : RLB U S) (k : KEP [(2, 20), (21, 24), (25, 65), (66, 106), (107, 147), (148, 188), (189, 195), (196, 220), (221, 272), (273, 876), (883, 888), (902, 904)] cBv U U1) : RLB U1 S := by
  have ct := a.1.2.2.1
  have c : ∀ j, Xi U1 5 j = Xi U 5 j := k.x 5 rfl
  have d : ∀ j, Xi U 5 j ≤ Xi U1 5 j := fun j => by rw [c]; exact Int.le_refl _
  exact rlb_r a (k.le rfl (by decide)) KEP.rf (a.1.2.2.2.2.2.2.2.1.k (d 2) (k.le rfl (by decide)) KEP.rf) (a.1.2.2.2.2.2.2.2.2.2.1.k (c 2) (d 0) (k.le rfl (by decide)) KEP.rf) (a.1.2.2.2.2.2.2.2.2.2.2.2.1.k ct (c 2) (c 0) (k.le rfl (by decide)) KEP.rf) (a.1.2.2.2.2.2.2.2.2.2.2.2.2.1.k ct a.2.1 (c 2) (c 0) (d 5) (k.le rfl (by decide)) KEP.rf (fun p _ => rfl))
theorem rlb_of {U S : sS} (a : RLA U S) : RLB U S := by
  obtain ⟨⟨b1, b2, b3, b4, b5, b6, b7, b8, b9, b10, _, b12, b13, b14, _⟩, x⟩ := a
  exact ⟨⟨b1, b2, b3, b4, b5, b6, b7, b8, b9, b10, trivial, b12, b13, b14, trivial⟩, x⟩
theorem kab_q {S T : sS} (e : ∀ j, Xi T 6 j = Xi S 6 j) (k : Int) : kab T k = kab S k := by
  have h : ∀ (n : Nat) (k c : Int), kabn T n k c = kabn S n k c := fun n => by
    induction n with
    | zero => intro k c; rfl
    | succ n ih => intro k c; unfold kabn; rw [e, ih]
  unfold kab
  rw [e, h]
theorem srt_q {S T U V : sS} {i : Int} (i24 : i ≤ 24) (h : SRT S T i) (e6 : ∀ j, Xi U 6 j = Xi S 6 j) (er : ∀ r j : Nat, r < 24 → Xi U (248 + r) j = Xi S (248 + r) j) (e2 : ∀ j, Xi V 272 j = Xi T 272 j) : SRT U V i := by
  have ky : ∀ a : Nat, a < 24 → kyU U a = kyU S a := fun a ha => by
    unfold kyU rkU
    rw [er a 2 ha, er a 3 ha, er a 4 ha, er a 5 ha, kab_q e6]
  obtain ⟨h1, h2, h3⟩ := h
  refine ⟨fun j hj => by rw [e2]; exact h1 j hj, fun j k hjk hk => ?_, fun P => ?_⟩
  · rw [e2, e2]
    have a := h1 j (by omega)
    have b := h1 k hk
    have x := h2 j k hjk hk
    unfold AHU CFU at x ⊢
    rw [ky _ (by omega), ky _ (by omega)]
    exact x
  · have e : (fun j : Nat => P (Xi V 272 j).toNat) = (fun j : Nat => P (Xi T 272 j).toNat) := funext fun j => by rw [e2]
    rw [e]; exact h3 P
/-- PLACE tests of the reference -/
theorem plm_of {U S : sS} (a : RLB U S) (x : PLC U) : PLM S := fun r hr k hk h4 h5 => by
  have b2 := a.2.2.2.1.2.2.2.1
  have hr2 : (r : Int) < Xi U 246 2 := by omega
  have ru := a.2.2.2.2.2 r hr2
  have u5 := ru.2.2.1
  obtain ⟨fm, n, w, h, t, g, m, c, q⟩ := ru.2.2.2.2.2.2.2.1 k hk
  obtain ⟨_, _, q⟩ := q
  have z : fm = 5 ∧ TMK 53 (Xi U 5 2) m (Xi S 975 ((Xi S 984 r).toNat + k)) := by
    rcases q with ⟨e, e9, _⟩ | ⟨e, e9, y, _⟩ | ⟨e, e9, _⟩ | ⟨e, e9, _⟩ | ⟨⟨e, e9⟩ | ⟨e, e9⟩, _⟩ | ⟨e, e9, _⟩ | ⟨e, e9, _⟩
    · omega
    · exact ⟨e, y⟩
    all_goals omega
  have m2 : m = -2 := by
    rcases z.2 with ⟨y, _⟩ | ⟨y, y2⟩
    · exact y
    · omega
  have nm := x r k hr2 (by omega) (by rw [c.1]; exact z.1) (by rw [c.2.2.2.2.2.2]; exact m2)
  have va := a.1.2.2.2.2.2.2.2.2.1.2
  have hd := ru.2.1
  unfold nMU at nm
  rcases hd with ⟨_, ⟨d1, _⟩, _⟩ | ⟨_, aa, oo, kk, nn, ⟨d1, _⟩, ⟨s1, _⟩, ⟨r1, _⟩, _⟩
  · omega
  · rw [d1] at nm
    unfold nM
    rw [s1, ← (va aa.toNat (by omega)).1]
    exact nm
/-- the player's place: alike in both -/
theorem ply_s {X Y R Q1 : sS} (a : RLB X R) (p : PCI X Y (Xi X 5 2)) (q : PLD R Q1) : RLB Y Q1 ∧ KEP [(2, 22), (25, 904)] [(1, 3), (20, 1), (20, 12), (882, 3), (246, 2), (246, 8)] X Y ∧ KEP [(905, 919), (921, 993)] cBw R Q1 := by
  have ob := a.1.2.2.2.2.2.2.2.2.2.1
  have kn := a.1.2.2.2.1
  have ct := a.1.2.2.1
  have b0 := ob.2 0 (by have := ct.2.2.1; omega)
  have is : ∀ o : Nat, (o : Int) < Xi X 5 2 → isK X (Xi X 21 o) 1 = blR R (Xi R 918 o) 1 := fun o ho => by
    have t := ob.1.2 o ho
    rw [t.1]
    exact isK_bl kn t.2.2
  have c19 := ct.2.2.1.1
  rcases p with ⟨p1, p2⟩ | ⟨p1, o, p2, _, p3, p4, p5⟩
  · rcases q with ⟨q1, _⟩ | ⟨q1, o, q2, q3, q4, _⟩
    · rw [p1, q1]
      exact ⟨a, KEP.rf, KEP.rf⟩
    · have t := p2 (by omega) o (by omega)
      rw [is o (by omega)] at t
      exact absurd t q3
  · rcases q with ⟨_, q2⟩ | ⟨_, o', q2, q3, q4, q5⟩
    · have t := q2 (by omega) o (by omega)
      rw [← is o p2] at t
      exact absurd t p3
    · have eo : o = o' := by
        by_cases x : o < o'
        · have t := q4 o x
          rw [← is o p2] at t
          exact absurd t p3
        · by_cases y : o' < o
          · have t := p4 o' y
            rw [is o' (by omega)] at t
            exact absurd t q3
          · omega
      subst eo
      have F : FR [(22, 24, 0, 100000)] X Y := by rw [p5]; exact fr_plO (by omega)
      have kq : ∀ {ks fs : List (Nat × Nat)}, inK ks 919 = false → inK ks 920 = false → (919, 0) ∉ fs → (920, 0) ∉ fs → KEP ks fs R Q1 := fun a b c d => by rw [q5]; exact KEP.tr (kep_w1 a c) (kep_w1 b d)
      refine ⟨rlb_o a (F.kep rfl) (kq rfl rfl (by decide) (by decide)) (rob_p ob (o := 0) (h := 1) (w := (o : Int)) ⟨by omega, by have := ct.2.2.1; omega⟩ (by omega) (by omega) ct p5 q5), F.kep rfl, kq rfl rfl (by decide) (by decide)⟩
end
