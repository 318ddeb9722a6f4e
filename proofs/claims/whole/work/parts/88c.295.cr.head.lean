section
/-! the reference: what the head of a rule notes, and of what kind its noun is -/
theorem acf_rg {U S : sS} {f : Nat} {r a b tr : Int} (h : RLW U S) (sc : SCX U S f) (rn : RNR U S f r a b) : ∀ n : Nat, a + 1 + n ≤ b → 0 ≤ (acF S (f + a) (b - a) tr n).2.2 ∧ (0 < (acF S (f + a) (b - a) tr n).2.2 → (0 ≤ (acF S (f + a) (b - a) tr n).1 ∧ (acF S (f + a) (b - a) tr n).1 < Xi U 5 8) ∧ ((acF S (f + a) (b - a) tr n).2.1 = -1 ∨ (0 ≤ (acF S (f + a) (b - a) tr n).2.1 ∧ (acF S (f + a) (b - a) tr n).2.1 < Xi U 5 2)))
  | 0, _ => by
    obtain ⟨e, g⟩ := aw_r h sc rn
    rw [acF, ← e]
    by_cases q : fnd U 8 a b ≠ -1 ∧ (tr = 0 ∨ Xi S 942 (fnd U 8 a b).toNat = -1)
    · rw [if_pos q]
      exact ⟨by show (0 : Int) ≤ 1; decide, fun _ => ⟨(g q.1).1, Or.inl rfl⟩⟩
    · rw [if_neg q]
      exact ⟨Int.le_refl _, fun z => absurd z (by show ¬ (0 : Int) < 0; decide)⟩
  | n + 1, hn => by
    obtain ⟨i1, i2⟩ := acf_rg (tr := tr) h sc rn n (by omega)
    obtain ⟨⟨e1, e2⟩, g1, g2⟩ := aq_r (n := n) h sc rn (by omega)
    rw [acF]
    by_cases q : acQ S (f + a) (b - a) tr ((n : Int) + 1)
    · rw [if_pos q]
      by_cases z : (acF S (f + a) (b - a) tr n).2.2 = 0
      · rw [if_pos z, ← e1, ← e2]
        obtain ⟨q1, q2, _⟩ := q
        rw [← e1] at q1
        rw [← e2] at q2
        exact ⟨by show (0 : Int) ≤ 1; decide, fun _ => ⟨(g1 q1).1, Or.inr (g2 q2).1⟩⟩
      · rw [if_neg z]
        exact ⟨by show 0 ≤ (acF S (f + a) (b - a) tr n).2.2 + 1; omega, fun _ => i2 (by omega)⟩
    · rw [if_neg q]
      exact ⟨i1, i2⟩
theorem amg_r {U S P B' : sS} {f ru : Nat} {s hd : Int} {lX : List rec} (w : ENW U S f) (hru : ru < 24) (hde : HDE (tkR S) S s f (f + hd)) (hh : hd < Xi U 876 7) (FX : FR lX S P) (eX : kepC lX cXk cSf = true) (eX2 : kepC lX [(950, 952)] [(904, 69), (904, 70), (904, 102), (904, 103)] = true) (e70 : Xi S 904 70 = s) (am : AMX P B' ru) : 1 ≤ hd ∧ NTG (pc7 U 0) (NT3 P) (NT3 B') ∧ -1 ≤ Xi B' 904 116 ∧ Xi B' 904 116 < Xi U 5 0 := by
  have el : ((ru : Nat) : Int).toNat = ru := by omega
  have kX := FX.kep eX
  have kX2 := FX.kep eX2
  have wP : ENW U P f := enw_k w KEP.rf kX
  have F0 := aca_F (S := P) (l := ru) (by omega)
  have n0 := aca_N (S := P) (l := ru)
  have x5 : Xi (acA P ru) 904 116 = -1 := aca_x.2.2.2.2
  have wA : ENW U (acA P ru) f := enw_k wP KEP.rf (F0.kep rfl)
  have c0 := w.1.2.2.1.1
  have n5 := w.2.1.2
  have sc := w.2.1
  have tb := w.2.2.1
  have pl : ∀ i : Int, 0 ≤ i → i < Xi U 876 7 → pc7 U 0 ≤ pc7 U i := fun i h0 h1 => by
    by_cases e : i = 0
    · rw [e]; exact Int.le_refl _
    · have := w.2.2.2.2.2 0 i (Int.le_refl _) (by omega) h1; omega
  have kind : ∀ o : Int, 0 ≤ o ∧ o < Xi U 5 2 → 0 ≤ Xi P 918 o.toNat ∧ Xi P 918 o.toNat < Xi U 5 0 := fun o ho => by
    have oo := wP.1.2.2.2.2.2.2.2.2.2.1.1.2 o.toNat (by omega)
    exact ⟨oo.2.1, oo.2.2⟩
  have akind : ∀ a : Int, 0 ≤ a ∧ a < Xi U 5 8 → Xi P 942 a.toNat < Xi U 5 0 := fun a ha => by
    have at' := wP.1.2.2.2.2.2.2.2.2.1.2 a.toNat (by omega)
    omega
  have eP70 : Xi P 904 70 = s := by rw [kX2.f 904 70 (by decide)]; exact e70
  have e102 : Xi P 904 102 = Xi S 904 102 := kX2.f 904 102 (by decide)
  have e103 : Xi P 904 103 = Xi S 904 103 := kX2.f 904 103 (by decide)
  obtain ⟨a6, a1, a2⟩ := am
  obtain ⟨st, h1, h2⟩ := hde
  have st1 : (f : Int) + 1 ≤ st ∧ st ≤ f + 2 := by rcases h1 with ⟨_, _, z⟩ | ⟨_, z⟩ <;> omega
  rcases h2 with ⟨s6, _, y⟩ | ⟨s6, r, rq, rr, h3⟩
  · have eB := a6 (by rw [eP70]; exact s6)
    rw [eB, n0, x5]
    exact ⟨by omega, ntg_0, by omega, by omega⟩
  obtain ⟨x, rfl⟩ : ∃ y : Int, st = f + y := ⟨st - f, by omega⟩
  have rlt := rq.1
  obtain ⟨R, rfl⟩ : ∃ y : Int, r = f + y := ⟨r - f, by omega⟩
  have Rh : R ≤ hd := by
    rcases h3 with ⟨_, _, y⟩ | ⟨_, y, _⟩
    · omega
    · have := y.1; omega
  have rqU := rq_r sc tb (by omega) (by omega) rq
  have rnS : RNR U S f (Xi S 904 102) x R := rr_rnr (by omega) (by omega) ⟨rqU.1, rqU.2.1⟩ rr
  have rnP : RNR U P f (Xi P 904 102) x R := by rw [e102]; exact rnS.kS (kX2.le rfl (by decide))
  have p102 : pc7 U 0 ≤ pR P (Xi P 904 102) := by
    rw [← rn_pc (scx_s wP.2.1 wP.1.1) rnP]
    exact pl x (by omega) (by omega)
  refine ⟨by omega, ?_⟩
  rcases h3 with ⟨_, y3, y4⟩ | ⟨ark, rq3, rr3⟩
  · obtain ⟨B, C, D, n, ao, FB, nC, FC, nD, FD, s1, s2⟩ := a1 (by rw [eP70]; exact s6) (by rw [e103]; exact y3)
    have nB : NT3 B = NT3 P := by rw [NT3_FR FB rfl, n0]
    have gC : NTG (pc7 U 0) (NT3 P) (NT3 C) := by rw [nC, nB]; exact ntg_if ntg_0 (ntg_1 p102)
    have gD : NTG (pc7 U 0) (NT3 P) (NT3 D) := by rw [nD]; exact ntg_if gC (ntg_n gC p102)
    have d5 : Xi D 904 116 = -1 := by rw [FD.x 904 116 rfl, FC.x 904 116 rfl, FB.x 904 116 rfl]; exact x5
    by_cases pn : 0 < n
    · have rnA : RNR U (acA P ru) f (Xi P 904 102) x R := rnP.kS (F0.kep rfl)
      unfold ACO at ao
      rw [rnA.2.2.2.1, rnA.2.2.2.2.1] at ao
      obtain ⟨ao1, ao2⟩ := ao
      have hk : x + 1 + (acK (R - x) : Int) ≤ R := by unfold acK; split <;> omega
      obtain ⟨_, rgs⟩ := acf_rg (tr := 0) wA.1 wA.2.1 rnA (acK (R - x)) hk
      rw [ao1] at rgs
      obtain ⟨v1, v2⟩ := rgs pn
      obtain ⟨u1, u2⟩ := ao2 pn
      rw [← u1] at v1
      rw [← u2] at v2
      have nk : -1 ≤ nkA P B ∧ nkA P B < Xi U 5 0 := by
        unfold nkA
        by_cases z : Xi B 904 129 = -1
        · rw [if_neg (fun y => y z)]
          have := akind _ v1
          split <;> omega
        · rw [if_pos z]
          rcases v2 with v2 | v2
          · exact absurd v2 z
          · have := kind _ v2; omega
      rw [s2 pn]
      refine ⟨?_, ?_⟩
      · have : NT3 (uI (uI (uI D 979 ((ru : Nat) : Int).toNat (Int32.ofInt (Xi B 904 128))) 980 ((ru : Nat) : Int).toNat (Int32.ofInt (Xi B 904 129))) 904 116 (Int32.ofInt (nkA P B))) = NT3 D := by
          unfold NT3
          rw [Xi_ne (by omega), Xi_ne (by omega), Xi_ne (by omega), Xi_ne (by omega), Xi_ne (by omega), Xi_ne (by omega), Xi_ne (by omega), Xi_ne (by omega), Xi_ne (by omega)]
        rw [this]; exact gD
      · rw [Xi_same (by unfold rg; omega)]; exact nk
    · rw [s1 pn, d5]
      exact ⟨gD, by omega, by omega⟩
  · have rqU3 := rq_r sc tb (a := R + 1) (e := hd) (by omega) hh (by rw [show (f : Int) + (R + 1) = f + R + 1 by omega]; exact rq3)
    have rmS : RNR U S f (Xi S 904 103) (R + 1) hd := rr_rnr (by omega) (by omega) ⟨rqU3.1, rqU3.2.1⟩ (by rw [show (f : Int) + (R + 1) = f + R + 1 by omega]; exact rr3)
    have rmP : RNR U P f (Xi P 904 103) (R + 1) hd := by rw [e103]; exact rmS.kS (kX2.le rfl (by decide))
    have p103 : pc7 U 0 ≤ pR P (Xi P 904 103) := by
      rw [← rn_pc (scx_s wP.2.1 wP.1.1) rmP]
      exact pl (R + 1) (by omega) (by omega)
    have r13 : Xi P 904 103 ≠ -1 := by rw [e103]; have := rr3.1; omega
    have h15 : 0 ≤ Xi P 904 15 := by have := wP.1.1.1.1; omega
    have fo : fnd U 2 (R + 1) hd = rnR P (Xi P 904 103) 4 := rn_fnd (s := 4) (scx_s wP.2.1 wP.1.1) rmP wP.1.1.2.2.2.1 h15 (by omega)
    rcases a2 (by rw [eP70]; exact s6) r13 with r | ⟨A, ng, na, B, ⟨eA, FB, nB⟩, FC, nC⟩ | ⟨A, C, ng, ⟨na, B, ⟨eA, FB, nB⟩, FC, nC⟩, E0, E, F, G, eD0, ⟨kd6, kd7⟩, FE, eF, FG, nG, s1, s2⟩
    · obtain ⟨eA, FB, nB⟩ := r
      rw [if_neg (fun q => q rfl), n0] at nB
      rw [nB, FB.x 904 116 rfl, x5]
      exact ⟨ntg_1 p102, by omega, by omega⟩
    · rw [if_pos na, n0] at nB
      rw [if_neg (by omega), nB] at nC
      rw [nC, FC.x 904 116 rfl, FB.x 904 116 rfl, x5]
      exact ⟨ntg_1 p103, by omega, by omega⟩
    · rw [if_pos na, n0] at nB
      rw [if_pos ng, nB] at nC
      have FD : FR [(904, 905, 104, 105), (904, 905, 105, 106), (904, 905, 106, 107), (904, 905, 109, 110), (904, 905, 116, 117), (979, 980, 0, 100000), (980, 981, 0, 100000), (981, 982, 0, 100000), (982, 983, 0, 100000)] P E0 := by
        rw [eD0]
        exact FR.wI (((F0.up rfl).tr FB rfl).tr FC rfl) rfl
      have wD : ENW U E0 f := enw_k wP KEP.rf (FD.kep rfl)
      have rmD := rmP.kS (FD.kep rfl : KEP [(950, 952)] [] P E0)
      have z109 : Xi E0 904 109 = 0 := by rw [eD0]; exact Xi_same (by unfold rg; omega)
      rw [rmP.2.2.2.1, rmP.2.2.2.2.1] at kd6
      rw [rmP.2.2.2.2.1] at kd7
      have nE0 : NT3 E0 = NT3 P := by
        rw [eD0]
        unfold NT3 at nC ⊢
        rw [Xi_ne (by omega), Xi_ne (by omega), Xi_ne (by omega)]
        exact nC
      have nE : NT3 E = NT3 P := by rw [NT3_FR FE rfl, nE0]
      have nF : NT3 F = NT3 P := by
        rw [eF]
        unfold NT3 at nE ⊢
        rw [Xi_ne (by omega), Xi_ne (by omega), Xi_ne (by omega)]
        exact nE
      rw [nF] at nG
      have gG : NTG (pc7 U 0) (NT3 P) (NT3 G) := by rw [nG]; exact ntg_if (ntg_1 p103) (ntg_if (ntg_1 p103) ntg_0)
      have nH : NT3 (amH P E G ru A) = NT3 G := by
        unfold amH NT3
        rw [Xi_ne (by omega), Xi_ne (by omega), Xi_ne (by omega), Xi_ne (by omega), Xi_ne (by omega), Xi_ne (by omega), Xi_ne (by omega), Xi_ne (by omega), Xi_ne (by omega)]
      have k110 : 0 < Xi E 904 109 → -1 ≤ Xi E 904 110 ∧ Xi E 904 110 < Xi U 5 0 := fun z => by
        by_cases q6 : hd - (R + 1) ≤ 6
        · have k := kd6 q6
          have pos : 0 < dcT E0 (f + (R + 1)) (hd - (R + 1)) 0 1 (Xi P 942 A.toNat) 4 := by have := k.1; omega
          obtain ⟨m, hm, _, _, kr⟩ := k.2.2 z109 pos
          obtain ⟨c1, c2⟩ := ck_r (pl := 0) wD.1 wD.2.1 rmD (m := m) (by omega)
          rw [kr.1, ← c1]
          by_cases z1 : ckC U hd 0 m = -1
          · omega
          · have := c2 z1; omega
        · have e := kd7 (by omega)
          rw [e, z109] at z
          omega
      have nk : -1 ≤ nkO P E A ∧ nkO P E A < Xi U 5 0 := by
        unfold nkO
        by_cases z : amo P A = -1
        · rw [if_neg (fun y => y z)]
          by_cases z2 : 0 < Xi E 904 109
          · rw [if_pos z2]; exact k110 z2
          · rw [if_neg z2]; omega
        · rw [if_pos z]
          have am : amo P A = rnR P (Xi P 904 103) 4 := by
            unfold amo at z ⊢
            by_cases y : rnR P (Xi P 904 103) 4 ≠ -1 ∧ blR P (Xi P 918 (rnR P (Xi P 904 103) 4).toNat) (Xi P 942 A.toNat) ≠ 0
            · rw [if_pos y]
            · rw [if_neg y] at z; exact absurd rfl z
          have rgo : 0 ≤ fnd U 2 (R + 1) hd ∧ fnd U 2 (R + 1) hd < Xi U 5 2 := whc_2 wP.1.1.2.2.1 wP.1.2.1 (by rw [fo, ← am]; exact z)
          rw [am, ← fo]
          have := kind _ rgo
          omega
      have h116 : Xi (amH P E G ru A) 904 116 = nkO P E A := by unfold amH; exact Xi_same (by unfold rg; omega)
      by_cases q2 : 0 < Xi E 904 109 ∧ amo P A = -1
      · rw [s2 q2]
        refine ⟨?_, ?_⟩
        · have : NT3 (uI (uI (amH P E G ru A) 981 ((ru : Nat) : Int).toNat (Int32.ofInt (Xi E 904 110))) 982 ((ru : Nat) : Int).toNat (Int32.ofInt (Xi E 904 112))) = NT3 G := by
            rw [← nH]
            unfold NT3
            rw [Xi_ne (by omega), Xi_ne (by omega), Xi_ne (by omega), Xi_ne (by omega), Xi_ne (by omega), Xi_ne (by omega)]
          have t2 : ∀ X : sS, NT3 (cpI X 967 983 0 (6 * ((ru : Nat) : Int)).toNat 6) = NT3 X := fun X => by
            unfold NT3
            rw [cpi_n (Or.inl (by omega)), cpi_n (Or.inl (by omega)), cpi_n (Or.inl (by omega))]
          rw [t2, this]; exact gG
        · rw [cpi_n (Or.inl (by omega)), Xi_ne (by omega), Xi_ne (by omega), h116]; exact nk
      · rw [s1 q2, nH, h116]; exact ⟨gG, nk⟩
end
section
/-! rules: where faults of tests lie; phrases as read -/
theorem tsn_rg {U S : sS} {f c : Nat} {a b now cc r : Int} (v : ENV U S f) (h0 : 0 ≤ a) (hb : b < Xi U 876 7) (hn : now = 0 ∨ now = 1) (rd : TSTR (tkR S) S c (f + a) (f + b) now) (y : TSN U a b now cc r) : a ≤ r ∧ r < b := by
  obtain ⟨_, _, ab, _, sh⟩ := shp_r v h0 hb hn rd
  have nt0 : 0 ≤ ntT U (isP U a b) := by unfold ntT; split <;> omega
  rcases y with ⟨y0, _, _, y1⟩ | ⟨y0, y1, y2⟩ | ⟨y0, y1, _, _, y2⟩ | ⟨y0, y1, _, y3, _, _, y2⟩ | ⟨y0, y1, _, _, _, _, y2⟩
  · omega
  · rcases sh with ⟨_, _, z⟩ | ⟨b1, b2, b3, rn, b5, b6, b7⟩ | ⟨b1, _⟩
    · exact absurd z y0
    · have r1 := rn.2.1
      have t := b6.2.2.1
      rcases y2 with ⟨_, _, y2⟩ | ⟨_, _, _, y2⟩ | ⟨_, _, y3, _, _, y2⟩
      · omega
      · omega
      · rcases b7 with ⟨z, _⟩ | ⟨_, _, _, _, z, _⟩ <;> omega
    · exact absurd y1 b1
  · rcases sh with ⟨_, _, z⟩ | ⟨b1, _⟩ | ⟨b1, b2, b3, b4, b5, b6, b7⟩
    · exact absurd z y0
    · exact absurd b1 y1
    · have t := b4.2.2.1; omega
  · rcases sh with ⟨_, _, z⟩ | ⟨b1, _⟩ | ⟨b1, b2, b3, b4, b5, b6, b7⟩
    · exact absurd z y0
    · exact absurd b1 y1
    · rcases b7 with ⟨z, _⟩ | ⟨_, _, _, _, _, z, t⟩
      · exact absurd z y3
      · have t := t.2.2.1
        have wj : isP U a b < wJ U a b := by unfold wJ; omega
        omega
  · rcases sh with ⟨_, _, z⟩ | ⟨b1, _⟩ | ⟨b1, b2, b3, b4, b5, b6, b7⟩
    · exact absurd z y0
    · exact absurd b1 y1
    · have wj : isP U a b < wJ U a b := by unfold wJ; omega
      omega
/-- where a fault of TESTS lies -/
theorem tsx_rg {A B C : sS} {f N : Nat} {a g : Int} (v : ENV A C f) (h0 : 0 ≤ a) (ch : TCH A C f a N) (n0 : 0 < N) (last : ty7 A (eT7 A a (N - 1)) ≠ 16) (eg : eT7 A a (N - 1) = g) (ts : TSS A B a 0) : ∃ r : Int, a ≤ r ∧ r < g ∧ Xi B 876 9 = pc7 A r := by
  obtain ⟨n, n6, m, _, cs⟩ := ts.2.2 (by omega) rfl
  have nN : n < N := by
    by_cases c : n < N
    · exact c
    · exact absurd (m (N - 1) (by omega)) last
  obtain ⟨x1, x2, x3, x4⟩ := ch n nN
  have le : eT7 A a n ≤ g := by
    by_cases c : n = N - 1
    · rw [c, eg]; exact Int.le_refl _
    · have t := pt_lt (U := A) (a := a) (N - 1 - n - 1) n (fun j hj => (ch j (by omega)).2.2.1)
      rw [show n + (N - 1 - n - 1) + 1 = N - 1 by omega] at t
      have := (ch (N - 1) (by omega)).2.2.1
      omega
  rcases cs with ⟨n6, ft⟩ | ⟨n6, c, r, y, ft⟩
  · subst n6
    exact ⟨_, x2, by omega, ft.2⟩
  · have k := tsn_rg v (by omega) x4 (Or.inl rfl) x1 y
    exact ⟨r, by omega, by omega, ft.2⟩
theorem phe_w {S X : sS} {c m : Nat} {p e : Int} (k : KEP [(907, 908), (950, 966)] [(904, 69)] S X) (h : PHE (tkR S) S c m p e) : PHE (tkR X) X c m p e := by
  have et : tkR X = tkR S := by funext i; unfold tkR; exact k.x 907 rfl _
  have u0 : ∀ j, Xi X 950 j = Xi S 950 j := k.x 950 rfl
  have u1 : ∀ j, Xi X 951 j = Xi S 951 j := k.x 951 rfl
  have u2 : ∀ j, Xi X 952 j = Xi S 952 j := k.x 952 rfl
  have u3 : ∀ j, Xi X 953 j = Xi S 953 j := k.x 953 rfl
  have u4 : ∀ j, Xi X 954 j = Xi S 954 j := k.x 954 rfl
  have u5 : ∀ j, Xi X 955 j = Xi S 955 j := k.x 955 rfl
  have u6 : ∀ j, Xi X 956 j = Xi S 956 j := k.x 956 rfl
  have u7 : ∀ j, Xi X 957 j = Xi S 957 j := k.x 957 rfl
  have u8 : ∀ j, Xi X 958 j = Xi S 958 j := k.x 958 rfl
  have u9 : ∀ j, Xi X 959 j = Xi S 959 j := k.x 959 rfl
  have ua : ∀ j, Xi X 960 j = Xi S 960 j := k.x 960 rfl
  have ub : ∀ j, Xi X 961 j = Xi S 961 j := k.x 961 rfl
  have uc : ∀ j, Xi X 962 j = Xi S 962 j := k.x 962 rfl
  have ue : ∀ j, Xi X 963 j = Xi S 963 j := k.x 963 rfl
  have ud : Xi X 904 69 = Xi S 904 69 := k.f 904 69 (by decide)
  rw [et]
  unfold PHE TSTR TSB PRE THE TH3 TWE WHE RR at h ⊢
  simp only [u0, u1, u2, u3, u4, u5, u6, u7, u8, u9, ua, ub, uc, ud, ue]
  exact h
/-- phrases as read, for a state of the class that has the sentence's rows -/
theorem pch_of {X S D : sS} {f N K : Nat} {a e : Int} (sc : SCX X S f) (tb : ∀ i : Int, 0 ≤ ty7 X i ∧ ty7 X i ≤ 108) (h0 : 0 ≤ a) (ps : PSQ (tkR S) S N 0 (f + a) K (f + e)) (hK : 0 < K) (he : e < Xi X 876 7) (kk : KEP [(907, 908), (950, 966)] [(904, 69)] S D) : PCHN X D f N a K ∧ eP7 X a (K - 1) = e ∧ ∀ k : Nat, k + 1 < K → ty7 X (eP7 X a k) = 105 := by
  obtain ⟨n, rfl⟩ : ∃ n, K = n + 1 := ⟨K - 1, by omega⟩
  obtain ⟨t1, t2, t3⟩ := psq_r sc tb h0 n e ps he
  refine ⟨fun k hk => ?_, t2, fun k hk => t3 k (by omega)⟩
  obtain ⟨x1, x2, x3, x4, x5, x6⟩ := t1 k (by omega)
  rw [Nat.zero_add] at x1 x2 x3
  exact ⟨phe_w kk x1, by rw [kk.x 964 rfl]; exact x3, by rw [kk.x 965 rfl]; exact x2, x4, x5, by omega⟩
theorem t58_106 {t : Int} (h : 0 ≤ t ∧ t ≤ 108) (k : tr7 t = 58) : t = 106 := by
  unfold tr7 at k
  by_cases c1 : t < 100
  · rw [if_pos c1] at k; omega
  · rw [if_neg c1] at k
    by_cases c2 : t = 106
    · exact c2
    · (repeat' split at k) <;> omega
theorem t59_105 {t : Int} (h : 0 ≤ t ∧ t ≤ 108) (k : t = 105) : tr7 t = 59 := by subst k; rfl
/-- behind the head of a rule the reference notes only at later places -/
theorem rl_g {U S C D E P : sS} {f N K : Nat} {hd g e q0 p0 : Int} (w : ENW U S f) (kC : KEP cXk cSf S C) (kC2 : KEP [(907, 908), (950, 966)] [(904, 69)] S C) (c116 : -1 ≤ Xi C 904 116 ∧ Xi C 904 116 < Xi U 5 0) (c115 : Xi C 904 115 = -1) (wht : WHT (tkR S) S 0 N 0 (f + hd) (f + g)) (hd1 : 1 ≤ hd) (tg : tkR S (f + g) = 58) (hK : 0 < K) (psq : PSQ (tkR S) S N 0 (f + g + 1) K (f + e)) (he : e < Xi U 876 7) (k8 : ∀ j, Xi P 908 j = Xi S 908 j) (k5 : ∀ j, Xi P 965 j = Xi S 965 j) (tr : TSR md_mo_need__p md_mo_testMeant__p C N D) (rp : RPH md_mo_need__p md_mo_phraseMeant__p P D q0 p0 K E) : (hd ≤ g ∧ g + 1 < e) ∧ (N = 0 → g = hd ∧ D = C) ∧ (0 < N → hd < g) ∧ NTG (pc7 U hd) (NT3 C) (NT3 D) ∧ NTG (pc7 U (g + 1)) (NT3 D) (NT3 E) := by
  obtain ⟨V, hV⟩ : ∃ V : sS, V = uI (uI U 895 3 (Int32.ofInt 53)) 895 4 (Int32.ofInt (Xi C 904 116)) := ⟨_, rfl⟩
  have FX : FR [(895, 896, 3, 4), (895, 896, 4, 5)] U V := by rw [hV]; exact FR.wI (FR.wI FR.rf rfl) rfl
  have c5 := w.1.2.2.1.1
  have wV : ENW V C f := enw_k w (FX.kep rfl) kC
  have wS : ENW V S f := enw_k (C := S) w (FX.kep rfl) KEP.rf
  have vV : ENV V C f := by
    refine env_s wV ⟨Or.inr ⟨?_, ?_, c115⟩, ?_⟩
    · rw [hV, Xi_ne (by omega)]; exact Xi_same (by unfold rg; omega)
    · rw [hV]; exact Xi_same (by unfold rg; omega)
    · rw [hV, Xi_same (by unfold rg; omega), Xi_ne (by omega), Xi_ne (by omega)]; exact c116
  have pV : ∀ r, pc7 V r = pc7 U r := fun r => pc7_k (FX.kep rfl : KEP cWk cWf U V) r
  have e7 : Xi V 876 7 = Xi U 876 7 := FX.x 876 7 rfl
  have ge : (f : Int) + g + 1 < f + e := by
    obtain ⟨n, rfl⟩ : ∃ n, K = n + 1 := ⟨K - 1, by omega⟩
    exact psq_lt n _ psq
  have FD := tsr_f N D tr
  have kD : KEP cPk cPf C D := FD.kep rfl
  have vD : ENV V D f := env_p vV kD
  have kSD : KEP [(907, 908), (950, 966)] [(904, 69)] S D := KEP.tr kC2 (FD.kep rfl)
  have hg : hd ≤ g ∧ (N = 0 → g = hd ∧ D = C) ∧ (0 < N → hd < g) ∧ NTG (pc7 U hd) (NT3 C) (NT3 D) := by
    rcases wht with ⟨_, hN, ts, _⟩ | ⟨_, hN, hg, _⟩
    · rw [show (f : Int) + hd + 1 = f + (hd + 1) by omega] at ts
      have gV : g < Xi V 876 7 := by omega
      have t := tch_of vV wS.2.1 (a := hd + 1) (by omega) ts hN gV (kC2.le rfl (by decide))
      have g0 := (t.1 0 hN)
      have a0 : pT7 V (hd + 1) 0 = hd + 1 := rfl
      have le : eT7 V (hd + 1) 0 ≤ g := by
        by_cases c : N - 1 = 0
        · have := t.2.1; rw [c] at this; omega
        · have k := pt_lt (U := V) (a := hd + 1) (N - 1 - 1) 0 (fun j hj => (t.1 j (by omega)).2.2.1)
          rw [show 0 + (N - 1 - 1) + 1 = N - 1 by omega] at k
          have := (t.1 (N - 1) (by omega)).2.2.1
          have := t.2.1
          omega
      have gn := (tsr_g vV (by omega) t.1 N D (Nat.le_refl _) tr).1
      rw [pV] at gn
      refine ⟨by omega, fun z => by omega, fun _ => by omega, ntg_le gn ?_⟩
      rw [← pV, ← pV]
      exact plo_le vV (by omega) (by omega) (by omega)
    · subst hN
      have tr : D = C := tr
      exact ⟨by omega, fun _ => ⟨by omega, tr⟩, fun z => absurd z (Nat.not_lt_zero _), by rw [tr]; exact ntg_0⟩
  obtain ⟨h1, h2, h3, h4⟩ := hg
  refine ⟨⟨h1, by omega⟩, h2, h3, h4, ?_⟩
  rw [show (f : Int) + g + 1 = f + (g + 1) by omega] at psq
  have pc := pch_of wS.2.1 wS.2.2.1 (a := g + 1) (by omega) psq hK (by omega) kSD
  obtain ⟨Y, y1, y2, y3⟩ := rph_g (a := g + 1) vD (by omega) pc.1 (fun j => by rw [k8, kD.x 908 rfl, kC.x 908 rfl]) (fun j => by rw [k5, kSD.x 965 rfl]) K E (Nat.le_refl _) rp 0 (Nat.zero_le _)
  have y1 : Y = D := y1
  have k := y3 hK
  rw [y1] at k
  have a0 : pP7 V (g + 1) 0 = g + 1 := rfl
  rw [a0, pV] at k
  exact k
end
section
/-! class and reference: a RULE (3, 4, 5, 6) -/
theorem tsq_lt {T : Int → Int} {V : sS} {c : Nat} {p : Int} : ∀ (n : Nat) (x : Int), TSQ T V c p (n + 1) x → p < x
  | 0, x, h => (ts_in h).1
  | n + 1, x, h => by
    obtain ⟨q, h1, _, h3⟩ := h
    have i := tsq_lt n q h1
    have j := (ts_in h3).1
    omega
theorem nt_4 {S : sS} {j : Nat} {v : Int32} (h : j ≠ 104 ∧ j ≠ 105 ∧ j ≠ 106) : NT3 (uI S 904 j v) = NT3 S := by
  unfold NT3
  rw [Xi_ne (by omega), Xi_ne (by omega), Xi_ne (by omega)]
theorem rlw_n {E : sS} {l q : Int} : NT3 (rlW E l q) = NT3 E := by
  unfold rlW
  rw [nt_4 (by omega), nt_4 (by omega), nt_4 (by omega), nt_u (by decide), nt_u (by decide), nt_u (by decide), nt_u (by decide), nt_u (by decide)]
theorem rlw_k {E : sS} {l q : Int} : KEP cSk cSf E (rlW E l q) := by
  unfold rlW
  exact KEP.tr (KEP.tr (KEP.tr (KEP.tr (KEP.tr (KEP.tr (KEP.tr (kep_u rfl) (kep_u rfl)) (kep_u rfl)) (kep_u rfl)) (kep_u rfl)) (kep_u rfl)) (kep_u rfl)) (kep_u rfl)
def lPA3 : List rec := [(904, 905, 104, 105), (904, 905, 105, 106), (904, 905, 106, 107), (904, 905, 108, 109), (904, 905, 115, 116), (904, 905, 116, 117)]
/-- what a rule leaves, in both: head, tests, phrases -/
def RULF (U U1 S T : sS) (ts ru N K : Nat) (s hd g : Int) : Prop := ∃ A B A' B' C' D' E W : sS, HDK U A B' ru s hd ∧ (FR lPA3 S A' ∧ KRE A' B' ru ∧ FR md_mo_actingMeant__p A' B' ∧ C' = uI B' 904 115 (Int32.ofInt (-1))) ∧ FR md_rr_ruleHead__p U A ∧ FR md_rr_tests__p A B ∧ FR md_rr_rulePhrases__p B U1 ∧
  (N ≤ 6 ∧ Xi B 246 5 = Xi A 246 5 + N ∧ Xi B 899 6 = N ∧ (∀ c j : Nat, (c : Int) < Xi A 246 5 → Xi B (276 + c) j = Xi A (276 + c) j) ∧ ∀ k : Nat, k < N → ∃ fm i w h t q m : Int, CLM B ((Xi A 246 5).toNat + k) fm i w h t q m ∧ TQF A D' (Xi S 904 117 + k).toNat 53 fm i w h t q m) ∧
  TSR md_mo_need__p md_mo_testMeant__p C' N D' ∧
  (K ≤ 8 ∧ PHC md_rr_rulePhrases__p B ru ts K W ∧ U1 = uI (uI W (248 + ru) 5 (Int32.ofInt (Xi B 899 6))) 246 2 (Int32.ofInt (Xi B 246 2 + 1)) ∧ Xi W 246 5 = Xi B 246 5 + K ∧ GRI B W ∧ (∀ c j : Nat, (c : Int) < Xi B 246 5 → Xi W (276 + c) j = Xi B (276 + c) j) ∧ PGO B W E ts (Xi B 246 5).toNat (g + 1) (Xi S 904 117 + N) (Xi S 904 125) K) ∧
  (∃ (f : Nat) (P : sS), ((PEN B D' f ts ∧ Xi B 899 5 = g) ∧ TSS A B (if ty7 A (Xi A 899 5) = 37 then Xi A 899 5 + 1 else -1) 1) ∧ PCHN B D' f N (g + 1) K ∧ RPH md_mo_need__p md_mo_phraseMeant__p P D' (Xi S 904 117 + N) (Xi S 904 125) K E) ∧ T = rlW E ru (Xi S 904 117 + N)
theorem st_3 {U A B U1 S T : sS} {f ts ru N K : Nat} {s hd g e x y z : Int} (w : ENW U S f) (bk : BKC U S) (hs : s = 3 ∨ s = 4 ∨ s = 5 ∨ s = 6) (e70 : Xi S 904 70 = s) (hde : HDE (tkR S) S s f (f + hd)) (wht : WHT (tkR S) S 0 N 0 (f + hd) (f + g)) (tg : tkR S (f + g) = 58) (hK : 0 < K) (psq : PSQ (tkR S) S N 0 (f + g + 1) K (f + e)) (te : tkR S (f + e) ≠ 59) (he : e < Xi U 876 7) (n98 : Xi S 904 98 = K)
    (ky : KEYR (Xj U 880) (Xj S 911)) (hts : ts = txr U) (tx : TXL U) (nv : NVL U) (e6 : Xi U 876 6 = Xi U 876 7) (dot : ty7 U (Xi U 876 7 - 1) = 103) (eru : (ru : Int) = Xi U 246 2)
    (hx : x = 0 ∨ x = 1) (c1 : RHO md_rr_ruleHead__p U A s x) (F1 : FR md_rr_ruleHead__p U A) (c0 : x = 0 → z = 0 ∧ U1 = A) (c2 : x = 1 → TSS A B (if ty7 A (Xi A 899 5) = 37 then Xi A 899 5 + 1 else -1) y ∧ HTE A B (if ty7 A (Xi A 899 5) = 37 then Xi A 899 5 + 1 else -1) y ∧ FR md_rr_tests__p A B ∧ (y = 0 ∨ y = 1)) (c3 : x = 1 → y = 0 → z = 0 ∧ U1 = B) (c4 : x = 1 → y = 1 → RPO md_rr_rulePhrases__p B U1 ru ts z ∧ FR md_rr_rulePhrases__p B U1 ∧ (z = 0 ∨ z = 1)) (zf : z = 0 → Xi U1 876 8 ≠ 0)
    (rc : ∃ P : sS, FR lA S P ∧ (Xi P 904 106 = 0 ∧ Xi P 904 108 = 0 ∧ Xi P 904 115 = -1 ∧ Xi P 904 116 = -1) ∧ RML P T f) : STP U1 T T ∧ (Xi U1 876 8 = 0 → RULF U U1 S T ts ru N K s hd g) := by
  obtain ⟨P, FP, ⟨P106, _, _, _⟩, E, ⟨A', B', C', D', FA, nA, am, FB, eC, tr, FDx, rp⟩, t1, t0⟩ := rc
  have bk2 := bk.2.2.2.1
  have bk0 := bk.1
  have bk1 := bk.2.1
  have bk3 := bk.2.2.1
  have rct := w.1.2.2.1
  have c53 := rct.2.2.2.1
  have n5 := w.2.1.2
  have st := w.2.2.2.1.1
  have t3 := rst_3 st
  have tb := w.2.2.1
  have e98 : (Xi P 904 98).toNat = K := by rw [FP.x 904 98 rfl, n98]; omega
  have n94 : Xi S 904 94 = N := by rcases wht with ⟨_, _, _, k⟩ | ⟨_, k, _, k2⟩ <;> omega
  have e94 : (Xi P 904 94).toNat = N := by rw [FP.x 904 94 rfl, n94]; omega
  have e130 : Xi P 904 130 = Xi U 246 2 := by rw [FP.x 904 130 rfl]; exact bk2.1.symm
  have e117 : Xi P 904 117 = Xi S 904 117 := FP.x 904 117 rfl
  have e125 : Xi P 904 125 = Xi S 904 125 := FP.x 904 125 rfl
  rw [e98] at rp
  rw [e94] at tr
  have n0 : (NT3 P).1 = 0 := P106
  have FPA : FR lPA3 S A' := (FP.up (rfl : sub lA lPA3 = true)).tr FA rfl
  have kA' : KEP cXk cSf S A' := FPA.kep rfl
  have kC : KEP cXk cSf S C' := by rw [eC]; exact KEP.tr (KEP.tr kA' (FB.kep rfl)) (kep_u rfl)
  have kC2 : KEP [(907, 908), (950, 966)] [(904, 69)] S C' := by rw [eC]; exact KEP.tr (KEP.tr (FPA.kep rfl) (FB.kep rfl)) (kep_u rfl)
  have kC3 : KEP [(911, 912)] [(904, 117)] S C' := by rw [eC]; exact KEP.tr (KEP.tr (FPA.kep rfl) (FB.kep rfl)) (fr_u.kep rfl)
  have c115 : Xi C' 904 115 = -1 := by rw [eC]; exact Xi_same (by unfold rg; omega)
  have c116 : Xi C' 904 116 = Xi B' 904 116 := by rw [eC, Xi_ne (by omega)]
  have nC : NT3 C' = NT3 B' := by rw [eC]; exact nt_4 (by omega)
  have ge : (f : Int) + g + 1 < f + e := by
    obtain ⟨n, rfl⟩ : ∃ n, K = n + 1 := ⟨K - 1, by omega⟩
    exact psq_lt n _ psq
  have hgg : hd ≤ g := by
    rcases wht with ⟨_, hN, k, _⟩ | ⟨_, _, k, _⟩
    · obtain ⟨n, rfl⟩ : ∃ n, N = n + 1 := ⟨N - 1, by omega⟩
      have := tsq_lt n _ k
      omega
    · omega
  have hh : hd < Xi U 876 7 := by omega
  obtain ⟨Lr, eL⟩ : ∃ n : Nat, (if Xi P 904 130 < 23 then Xi P 904 130 else 23) = (n : Int) := ⟨(if Xi P 904 130 < 23 then Xi P 904 130 else 23).toNat, by split <;> omega⟩
  have hL : Lr < 24 := by
    have : (Lr : Int) ≤ 23 := by rw [← eL]; split <;> omega
    omega
  rw [eL] at am
  obtain ⟨hd1, gB, r116⟩ := amg_r w hL hde hh FPA rfl rfl e70 am
  obtain ⟨⟨_, g1⟩, rN0, rN1, gT, gP⟩ := rl_g w kC kC2 (by rw [c116]; exact r116) c115 wht hd1 tg hK psq he (fun j => (FP.kep rfl : KEP [(908, 909), (965, 966)] [] S P).x 908 rfl j) (fun j => (FP.kep rfl : KEP [(908, 909), (965, 966)] [] S P).x 965 rfl j) tr rp
  have nT : NT3 T = NT3 E := by
    by_cases q : Xi E 904 106 = 0
    · rw [t0 q]; exact rlw_n
    · rw [t1 q]
  have plo := w.2.2.2.2.2
  have fin : Xi U1 876 8 ≠ 0 → NTB (NT3 E) (Xi U1 876 8) (Xi U1 876 9) → STP U1 T T ∧ (Xi U1 876 8 = 0 → RULF U U1 S T ts ru N K s hd g) := fun a b => ⟨Or.inl ⟨a, Or.inl (by rw [nT]; exact b)⟩, fun c => absurd c a⟩
  have gAll : NTG (pc7 U hd) (NT3 B') (NT3 E) := by
    rw [nC] at gT
    exact ntg_t gT (ntg_le gP (by have := plo hd (g + 1) (by omega) (by omega) (by omega); omega))
  have le0 : pc7 U 0 ≤ pc7 U hd := by have := plo 0 hd (Int.le_refl _) (by omega) hh; omega
  by_cases lt : Xi U 246 2 < 24
  · -- there is room
    have eLr : Lr = ru := by
      rw [e130] at eL
      by_cases q : Xi U 246 2 < 23
      · rw [if_pos q] at eL; omega
      · rw [if_neg q] at eL; omega
    subst eLr
    rw [if_pos (by rw [e130]; exact lt)] at nA
    obtain ⟨_, _, kre, hr0, hr1⟩ := head_r w (by omega) eru lt hs c1 hx hde hh FPA rfl rfl e70 am
    rcases hx with x0 | x1
    · obtain ⟨z0, eU⟩ := c0 x0
      obtain ⟨ntb, ne, r, r0, r1, er⟩ := hr0 x0 (by rw [nA]; exact n0)
      rw [← eU] at ntb ne er
      refine fin ne (ntg_k gAll ntb ne ?_)
      rw [er]
      exact plo r hd r0 r1 hh
    · obtain ⟨nB, hdk⟩ := hr1 x1
      obtain ⟨⟨_, _⟩, ⟨k3, k4, k5, k6⟩, _, _, k9, k8, ks6, ksn⟩ := id hdk
      have wA : ENW A C' f := enw_k w (F1.kep rfl) kC
      have wAS : ENW A S f := enw_k (C := S) w (F1.kep rfl) KEP.rf
      have tyA : ty7 A = ty7 U := ty7_k (F1.kep rfl)
      have pcA : ∀ r, pc7 A r = pc7 U r := fun r => pc7_k (F1.kep rfl : KEP cWk cWf U A) r
      have a7 : Xi A 876 7 = Xi U 876 7 := F1.x 876 7 rfl
      have a50 : Xi A 5 0 = Xi U 5 0 := (F1.kep rfl : KEP [(5, 6)] [] U A).x 5 rfl 0
      have vA : ENV A C' f := env_s wA ⟨Or.inr ⟨k3, by rw [c116]; exact k4, c115⟩, k5, by rw [a50]; exact k6⟩
      have a246 : 0 ≤ Xi A 246 5 ∧ Xi A 246 5 ≤ Xi U 246 5 + 5 := by
        by_cases q : s = 6
        · have := (ks6 q).2.2.1; omega
        · obtain ⟨a, o, k, n, hr⟩ := ksn q
          have h6 := hr.2.2.2.2.2.1
          have h3 := hr.2.2.1.2.2.2
          omega
      obtain ⟨ts', hte, FB2, hy⟩ := c2 x1
      rw [k9, tyA] at ts' hte
      have q117 : 0 ≤ Xi C' 904 117 := by rw [kC3.f 904 117 (by decide)]; exact bk1.1
      have tyg : ty7 U g = 106 := t58_106 (tb g) (by rw [← tkx w.2.1 ⟨by omega, by omega⟩]; exact tg)
      have tkh := tkx w.2.1 (i := hd) ⟨by omega, by omega⟩
      -- the tests
      have tests : (y = 0 → NTB (NT3 D') (Xi B 876 8) (Xi B 876 9) ∧ ∃ r : Int, 0 ≤ r ∧ r < g ∧ Xi B 876 9 = pc7 U r) ∧ (y = 1 → NT3 D' = NT3 C' ∧ Xi B 876 8 = 0 ∧ Xi B 899 5 = g ∧ Xi B 246 5 = Xi A 246 5 + N ∧ N ≤ 6 ∧ Xi B 899 6 = N ∧ (∀ c j : Nat, (c : Int) < Xi A 246 5 → Xi B (276 + c) j = Xi A (276 + c) j) ∧ ∀ k : Nat, k < N → ∃ fm i w h t q m : Int, CLM B ((Xi A 246 5).toNat + k) fm i w h t q m ∧ TQF A D' (Xi S 904 117 + k).toNat 53 fm i w h t q m) := by
        rcases wht with ⟨t37, hN, tsq, _⟩ | ⟨t37, hN, hg, _⟩
        · have k37 : ty7 U hd = 37 := (tr_key (k := 137) (tb hd) (by omega)).1 (by rw [← tkh]; exact t37)
          rw [if_pos k37] at ts' hte
          rw [show (f : Int) + hd + 1 = f + (hd + 1) by omega] at tsq
          obtain ⟨ch, eg, mid⟩ := tch_of vA wAS.2.1 (a := hd + 1) (by omega) tsq hN (by omega) (kC2.le rfl (by decide))
          have last : ty7 A (eT7 A (hd + 1) (N - 1)) ≠ 16 := by rw [eg, tyA, tyg]; decide
          obtain ⟨y1, y0⟩ := tss_r vA (by omega) ch q117 hN mid last hy ts' tr
          refine ⟨fun q => ⟨y0 q (by rw [nC, nB, nA]; exact n0), ?_⟩, fun q => ?_⟩
          · rw [q] at ts'
            obtain ⟨r, r0, r1, r2⟩ := tsx_rg vA (by omega) ch hN last eg ts'
            exact ⟨r, by omega, r1, by rw [r2, pcA]⟩
          · obtain ⟨m1, m2, m3, m4, m5⟩ := y1 q
            obtain ⟨n, p1, p2, p3, p4, p5⟩ := (hte q).2 (by omega)
            have nN : n = N := by
              by_cases c : n < N
              · exact absurd (mid (n - 1) (by omega)) p4
              · by_cases c2 : N < n
                · exact absurd (p3 (N - 1) (by omega)) last
                · omega
            subst nN
            rw [kC3.f 904 117 (by decide), k3] at m5
            exact ⟨m1, m3, by rw [p5, eg], m4.2.1, m2, m4.1, fun c j hc => m4.2.2.2.2 c j (by omega), m5⟩
        · have k37 : ¬ ty7 U hd = 37 := fun q => t37 (by rw [tkh]; exact (tr_key (k := 137) (tb hd) (by omega)).2 q)
          rw [if_neg k37] at ts' hte
          subst hN
          obtain ⟨y1, b8, tc⟩ := ts'.1 rfl
          obtain ⟨gh, dc⟩ := rN0 rfl
          exact ⟨fun q => by omega, fun q => ⟨by rw [dc], b8, by rw [(hte q).1 rfl, k9, gh], tc.2.1, by omega, tc.1, fun c j hc => tc.2.2.2.2 c j (by omega), fun k hk => absurd hk (Nat.not_lt_zero _)⟩⟩
      obtain ⟨ty0, ty1⟩ := tests
      rcases hy with y0 | y1
      · obtain ⟨z0, eU⟩ := c3 x1 y0
        obtain ⟨ntb, r, r0, r1, er⟩ := ty0 y0
        rw [← eU] at ntb er
        refine fin (zf z0) (ntg_k gP ntb (zf z0) ?_)
        rw [er]
        exact plo r (g + 1) r0 (by omega) (by omega)
      · obtain ⟨nD, b8, b99, b246, N6, b996, bold, btst⟩ := ty1 y1
        obtain ⟨rpo, FR3, hz⟩ := c4 x1 y1
        have kB : KEP cWk cWf U B := KEP.tr (F1.kep rfl) (FB2.kep rfl)
        have FD := tsr_f N D' tr
        have wB : ENW B D' f := enw_k w kB (KEP.tr kC (FD.kep rfl))
        have wBS : ENW B S f := enw_k (C := S) w kB KEP.rf
        have tyB : ty7 B = ty7 U := ty7_k kB
        have pcB : ∀ r, pc7 B r = pc7 U r := pc7_k kB
        have b7 : Xi B 876 7 = Xi U 876 7 := kB.f 876 7 (by decide)
        have kB2 : KEP [(880, 881), (877, 880), (5, 6)] [(876, 5), (876, 6), (876, 7)] U B := KEP.tr (F1.kep rfl) (FB2.kep rfl)
        have b53 : Xi B 895 3 = 53 := by rw [FB2.x 895 3 rfl]; exact k3
        have vB : ENV B D' f := by
          refine env_s wB ⟨Or.inr ⟨b53, ?_, ?_⟩, ?_⟩
          · rw [FB2.x 895 4 rfl, FD.x 904 116 rfl, c116]; exact k4
          · rw [FD.x 904 115 rfl]; exact c115
          · rw [FB2.x 895 4 rfl, kB2.x 5 rfl 0]; exact ⟨k5, k6⟩
        have k11 : ∀ j, Xj D' 911 j = Xj S 911 j := (KEP.tr (kC3.le rfl (by decide)) (FD.kep rfl) : KEP [(911, 912)] [] S D').j 911 rfl
        have pe : PEN B D' f ts := by
          refine ⟨vB, b53, fun i hi => by rw [kB2.j 880 rfl, k11]; exact ky i hi, ?_, ⟨fun r h0 h1 ht => ?_, ?_, ?_⟩, fun j hj hq => ?_, ?_, ⟨by omega, ?_⟩, b8, ?_, ?_⟩
          · rw [hts]; unfold txr; rw [(kB.2 (20, 1) (by decide)).2.2]
          · rw [kB2.j 879 rfl, pcB, kB2.f 876 5 (by decide), kB2.f 876 6 (by decide)]
            rw [tyB] at ht
            exact tx.1 r h0 (by omega) ht
          · rw [kB2.f 876 5 (by decide)]; exact tx.2.1
          · rw [kB2.f 876 6 (by decide)]; exact tx.2.2
          · rw [kB2.x 877 rfl] at hq
            rw [kB2.j 879 rfl]
            exact nv j (by omega) hq
          · rw [kB2.f 876 6 (by decide), b7]; exact e6
          · rw [b7, tyB]; exact dot
          · omega
          · omega
        have kSD : KEP [(907, 908), (950, 966)] [(904, 69)] S D' := KEP.tr kC2 (FD.kep rfl)
        rw [show (f : Int) + g + 1 = f + (g + 1) by omega] at psq
        obtain ⟨ch, eg, mid⟩ := pch_of wBS.2.1 wBS.2.2.1 (a := g + 1) (by omega) psq hK (by omega) kSD
        have last : ty7 B (eP7 B (g + 1) (K - 1)) ≠ 105 := by
          rw [eg, tyB]
          intro q
          exact te (by rw [tkx w.2.1 ⟨by omega, by omega⟩]; exact t59_105 (tb e) q)
        obtain ⟨p1, p0⟩ := phs_r (base := (Xi B 246 5).toNat) pe (by rw [b99]) (by omega) (by omega) ch (fun j => by rw [(FP.kep rfl : KEP [(908, 909), (965, 966)] [] S P).x 908 rfl, (KEP.tr (kC.le rfl (by decide)) (FD.kep rfl) : KEP [(908, 909)] [] S D').x 908 rfl]) (fun j => by rw [(FP.kep rfl : KEP [(908, 909), (965, 966)] [] S P).x 965 rfl, kSD.x 965 rfl]) (by rw [e117, FP.x 904 94 rfl, n94]; omega) (by rw [e125]; omega) hK mid last rpo rp
        have nD0 : (NT3 D').1 = 0 := by rw [nD, nC, nB, nA]; exact n0
        rcases hz with z0 | z1
        · exact fin (zf z0) (p0 z0 nD0)
        · obtain ⟨nE, K8, f8, W, w1, w2, w3, w4, w5, w6⟩ := p1 z1
          have nE0 : (NT3 E).1 = 0 := by rw [nE]; exact nD0
          have E106 : Xi E 904 106 = 0 := nE0
          have FE := rph_f K E rp
          have q9 : Xi P 904 117 + Xi P 904 94 = Xi S 904 117 + N := by rw [e117, FP.x 904 94 rfl, n94]
          rw [q9, e125] at w6 rp
          refine ⟨Or.inr ⟨f8, by rw [nT]; exact nE0, by rw [nT]; exact nE0, ?_⟩, fun _ => ⟨A, B, A', B', C', D', E, W, hdk, ⟨FPA, kre, FB, eC⟩, F1, FB2, FR3, ⟨N6, b246, b996, bold, btst⟩, tr, ⟨K8, w1, w2, w3, w4, w5, w6⟩, ⟨f, P, ⟨⟨pe, b99⟩, by have t := (c2 x1).1; rw [y1] at t; exact t⟩, ch, rp⟩, by rw [t0 E106, q9, eL]⟩⟩
          refine w.1.k t3 (KEP.tr (kB.le rfl (by decide)) (FR3.kep rfl)) ?_
          rw [t0 E106]
          exact KEP.tr (KEP.tr (KEP.tr (kC.le rfl (by decide)) (FD.kep rfl)) (FE.kep rfl)) rlw_k
  · -- no room for one more
    obtain ⟨x0, ft⟩ := c1.1 (by omega)
    obtain ⟨z0, eU⟩ := c0 x0
    have pf : Xi P 908 (f : Int).toNat = pc7 U 0 := by
      rw [(FP.kep rfl : KEP [(908, 909)] [] S P).x 908 rfl, show (f : Int).toNat = ((f : Int) + 0).toNat by omega]
      exact (pc_r w.2.1 ⟨Int.le_refl _, by omega⟩).symm
    rw [if_neg (by rw [e130]; exact lt), pf] at nA
    have nA9 : NT3 A' = (9, pc7 U 0, 0) := by
      rw [nA]
      unfold ntF
      rw [if_pos (Or.inl n0)]
      rfl
    obtain ⟨ll, hl, ee⟩ := ntg_t gB (ntg_le gAll le0)
    have e9 : NT3 E = (9, pc7 U 0, 0) := by rw [ee, nA9]; exact ntg_9 ll hl
    refine fin (zf z0) ?_
    rw [eU, ft.1, ft.2, e9]
    exact ⟨rfl, rfl⟩
end
section
/-! rules: entries told before stay -/
theorem rph_o {W S D : sS} {f c0 N : Nat} {a q0 p0 : Int} (q00 : 0 ≤ q0) (p00 : 0 ≤ p0) (ch : PCHN W D f c0 a N) : ∀ (n : Nat) (X : sS), n ≤ N → RPH md_mo_need__p md_mo_phraseMeant__p S D q0 p0 n X → (∀ k j : Nat, 969 ≤ k → k ≤ 975 → (j : Int) < q0 → Xi X k j = Xi D k j) ∧ ∀ k j : Nat, k = 976 ∨ k = 977 → (j : Int) < p0 → Xi X k j = Xi D k j
  | 0, X, _, h => by have h : X = D := h; rw [h]; exact ⟨fun _ _ _ _ _ => rfl, fun _ _ _ _ => rfl⟩
  | n + 1, X, hn, h => by
    obtain ⟨X', A', h1, FN, _, FP, pm⟩ := h
    obtain ⟨i1, i2⟩ := rph_o q00 p00 ch n X' (by omega) h1
    obtain ⟨c1, c2, _⟩ := ch n (by omega)
    have F : FR md_mo_phraseMeant__p D A' := (rph_f n X' h1).tr FN rfl
    have kA : KEP cPk cPf D A' := F.kep rfl
    have rd := phe_q kA c1
    have k4 : Xi A' 964 n = ((c0 + n : Nat) : Int) := by rw [kA.x 964 rfl]; exact c2
    have p3 := phe_3 rd
    have ein : ((n : Nat) : Int).toNat = n := by omega
    have pk := pmx_q (by omega) (by rw [ein]; exact p3.1) (fun h => by
      rw [ein] at h
      have t := p3.2 h
      unfold pTS
      rw [ein, k4, show (((c0 + n : Nat) : Int)).toNat = c0 + n by omega]
      exact t) pm
    have kN : ∀ k j : Nat, 969 ≤ k → k ≤ 977 → Xi A' k j = Xi X' k j := fun k j a b => (FN.kep rfl : KEP [(969, 978)] [] X' A').x _ (inK_i (a := 969) (b := 978) (List.mem_cons_self ..) (by omega) (by omega)) j
    exact ⟨fun k j a b c => by rw [pk.1 k j a b (by omega), kN k j (by omega) (by omega)]; exact i1 k j a b c, fun k j a c => by rw [pk.2 k j a (by omega), kN k j (by omega) (by omega)]; exact i2 k j a c⟩
/-- what the reference has told of rules, but for the new one, stays -/
theorem rlw_e {E : sS} {ru : Nat} {q : Int} : KRE E (rlW E ru q) ru := by
  have el : ((ru : Nat) : Int).toNat = ru := by omega
  unfold rlW
  rw [el]
  refine ⟨fun c r h1 h2 h3 h4 => ?_, fun j hj => ?_⟩
  · rw [Xi_ne (by omega), Xi_ne (by omega), Xi_ne (by omega), Xi_ne (by omega), Xi_ne (by omega), Xi_ne (by omega), Xi_ne (by omega), Xi_ne (by omega)]
  · rw [Xi_ne (by omega), Xi_ne (by omega), Xi_ne (by omega), Xi_ne (by omega), Xi_ne (by omega), Xi_ne (by omega), Xi_ne (by omega), Xi_ne (by omega)]
theorem rlw_x {E : sS} {ru : Nat} {q : Int} (q0 : 0 ≤ q ∧ q ≤ 100000) (e1 : 0 ≤ Xi E 904 117 ∧ Xi E 904 117 ≤ 100000) (e2 : 0 ≤ Xi E 904 94 ∧ Xi E 904 94 ≤ 100000) (e3 : 0 ≤ Xi E 904 125 ∧ Xi E 904 125 ≤ 100000) (e4 : 0 ≤ Xi E 904 98 ∧ Xi E 904 98 ≤ 100000) (e5 : 0 ≤ Xi E 904 130 ∧ Xi E 904 130 ≤ 100000) : Xi (rlW E ru q) 978 ru = soQ (Xi E 904 70) ∧ Xi (rlW E ru q) 984 ru = Xi E 904 117 ∧ Xi (rlW E ru q) 985 ru = Xi E 904 94 ∧ Xi (rlW E ru q) 986 ru = Xi E 904 125 ∧ Xi (rlW E ru q) 987 ru = Xi E 904 98 ∧ Xi (rlW E ru q) 904 117 = q + Xi E 904 98 ∧ Xi (rlW E ru q) 904 125 = Xi E 904 125 + Xi E 904 98 ∧ Xi (rlW E ru q) 904 130 = Xi E 904 130 + 1 := by
  have el : ((ru : Nat) : Int).toNat = ru := by omega
  have so : rg (soQ (Xi E 904 70)) := by unfold rg soQ; (repeat' split) <;> omega
  unfold rlW
  rw [el]
  refine ⟨?_, ?_, ?_, ?_, ?_, ?_, ?_, ?_⟩
  · rw [Xi_ne (by omega), Xi_ne (by omega), Xi_ne (by omega), Xi_ne (by omega), Xi_ne (by omega), Xi_ne (by omega), Xi_ne (by omega), Xi_same so]
  · rw [Xi_ne (by omega), Xi_ne (by omega), Xi_ne (by omega), Xi_ne (by omega), Xi_ne (by omega), Xi_ne (by omega), Xi_same (by unfold rg; omega)]
  · rw [Xi_ne (by omega), Xi_ne (by omega), Xi_ne (by omega), Xi_ne (by omega), Xi_ne (by omega), Xi_same (by unfold rg; omega)]
  · rw [Xi_ne (by omega), Xi_ne (by omega), Xi_ne (by omega), Xi_ne (by omega), Xi_same (by unfold rg; omega)]
  · rw [Xi_ne (by omega), Xi_ne (by omega), Xi_ne (by omega), Xi_same (by unfold rg; omega)]
  · rw [Xi_ne (by omega), Xi_ne (by omega), Xi_same (by unfold rg; omega)]
  · rw [Xi_ne (by omega), Xi_same (by unfold rg; omega)]
  · rw [Xi_same (by unfold rg; omega)]
end
section
/-! rules of both: one relation -/
theorem tmk_u {sk n n1 w t : Int} (h : n ≤ n1) (x : TMK sk n w t) : TMK sk n1 w t := by
  rcases x with x | x
  · exact Or.inl x
  · exact Or.inr ⟨⟨x.1.1, by have := x.1.2; omega⟩, x.2⟩
/-- a phrase stays one when the class's world grows -/
theorem pqf_u {U U1 S : sS} {p q : Nat} {fm n w h t g m : Int} (c : ∀ j, Xi U 5 j ≤ Xi U1 5 j) (n9 : ∀ p : Nat, (p : Int) < Xi U 5 5 → Xi U1 9 p = Xi U 9 p) (n19 : ∀ a : Nat, (a : Int) < Xi U 5 8 → Xi U1 19 a = Xi U 19 a) (tx : ∀ j, Xi U1 (txr U1) j = Xi U (txr U) j) (x : PQF U S p q fm n w h t g m) : PQF U1 S p q fm n w h t g m := by
  obtain ⟨x0, x⟩ := x
  refine ⟨x0, ?_⟩
  rcases x with ⟨y1, y2⟩ | x | ⟨y1, y2, y3, y4⟩ | ⟨y1, y2, y3, y4, y5, y6⟩ | ⟨y1, y2, y3, y4, y5⟩ | x
  · exact Or.inl ⟨y1, tqf_u c n9 tx y2⟩
  · exact Or.inr (Or.inl x)
  · exact Or.inr (Or.inr (Or.inl ⟨y1, y2, tmk_u (c 2) y3, tmk_u (c 2) y4⟩))
  · have k := c 5
    refine Or.inr (Or.inr (Or.inr (Or.inl ⟨y1, y2, tmk_u (c 2) y3, y4, ⟨y5.1, by omega⟩, ?_⟩)))
    rw [n9 h.toNat (by omega)]; exact y6
  · have k := c 8
    have e := n19 h.toNat (by omega)
    refine Or.inr (Or.inr (Or.inr (Or.inr (Or.inl ⟨y1, y2, y3, ⟨y4.1, by omega⟩, ?_⟩))))
    rcases y5 with ⟨z1, z2, z3⟩ | ⟨z1, z2, z3⟩
    · exact Or.inl ⟨z1, z2, by rw [e]; exact z3⟩
    · exact Or.inr ⟨z1, tmk_u (c 2) z2, by rw [e]; exact z3⟩
  · exact Or.inr (Or.inr (Or.inr (Or.inr (Or.inr x))))
/-- the head of a rule, in both -/
def HRT (U S : sS) (r : Nat) : Prop :=
  (Xi U (248 + r) 0 = 3 ∧ (Xi U (248 + r) 1 = -1 ∧ Xi U (248 + r) 2 = -1 ∧ Xi U (248 + r) 3 = -1 ∧ Xi U (248 + r) 4 = 0) ∧ (Xi S 979 r = -1 ∧ Xi S 980 r = -1 ∧ Xi S 981 r = -1 ∧ Xi S 982 r = 0)) ∨
  (Xi U (248 + r) 0 ≠ 3 ∧ ∃ a o k n : Int, (Xi U (248 + r) 1 = a ∧ Xi U (248 + r) 2 = o ∧ Xi U (248 + r) 3 = k ∧ Xi U (248 + r) 4 = n) ∧ (Xi S 979 r = a ∧ Xi S 980 r = o ∧ Xi S 981 r = k ∧ Xi S 982 r = n) ∧ ((0 ≤ a ∧ a < Xi U 5 8) ∧ (-1 ≤ o ∧ o < Xi U 5 2) ∧ (-1 ≤ k ∧ k < Xi U 5 0) ∧ (0 ≤ n ∧ n ≤ 5)) ∧ ((o ≠ -1 ∨ k ≠ -1 → 0 ≤ Xi U 19 a.toNat) ∧ (o ≠ -1 → k = -1) ∧ (k = -1 → n = 0)) ∧ ∀ i : Nat, (i : Int) < n → ADH U U ((Xi U (248 + r) 7).toNat + i) (Xi S 983 (6 * r + i)))
/-- a rule, in both: clauses of the class in the order ADJECTIVES, tests, phrases -/
def RUQ1 (U S : sS) (r : Nat) : Prop := (Xi U (248 + r) 0 = Xi S 978 r ∧ 0 ≤ Xi U (248 + r) 0 ∧ Xi U (248 + r) 0 ≤ 3) ∧ HRT U S r ∧
  (Xi U (248 + r) 5 = Xi S 985 r ∧ 0 ≤ Xi S 985 r ∧ Xi S 985 r ≤ 6) ∧ (Xi U (248 + r) 6 = Xi S 987 r ∧ 1 ≤ Xi S 987 r ∧ Xi S 987 r ≤ 8) ∧
  (0 ≤ Xi U (248 + r) 7 ∧ 0 ≤ Xi U (248 + r) 4 ∧ Xi U (248 + r) 7 + Xi U (248 + r) 4 + Xi S 985 r + Xi S 987 r ≤ Xi U 246 5) ∧ (0 ≤ Xi S 984 r ∧ Xi S 984 r + Xi S 985 r + Xi S 987 r ≤ Xi S 904 117) ∧ (0 ≤ Xi S 986 r ∧ Xi S 986 r + Xi S 987 r ≤ Xi S 904 125) ∧
  (∀ k : Nat, (k : Int) < Xi S 985 r → TQR U S ((Xi U (248 + r) 7 + Xi U (248 + r) 4).toNat + k) ((Xi S 984 r).toNat + k) 53) ∧
  ∀ k : Nat, (k : Int) < Xi S 987 r → ∃ fm n w h t g m : Int, CLM U ((Xi U (248 + r) 7 + Xi U (248 + r) 4 + Xi S 985 r).toNat + k) fm n w h t g m ∧ PQF U S ((Xi S 986 r).toNat + k) ((Xi S 984 r + Xi S 985 r).toNat + k) fm n w h t g m
def RULS (U S : sS) : Prop := ∀ r : Nat, (r : Int) < Xi U 246 2 → RUQ1 U S r
end
section
/-! rules of the class: rows of rules while phrases are read -/
theorem phc_r {l : List rec} {W : sS} {ru ts : Nat} (hru : ru < 24) : ∀ (n : Nat) (T : sS), n ≤ 8 → PHC l W ru ts n T → (∀ k j : Nat, k < 24 → ¬ (k = ru ∧ j = 6) → Xi T (248 + k) j = Xi W (248 + k) j) ∧ (0 < n → Xi T (248 + ru) 6 = n)
  | 0, T, _, h => by have h : T = W := h; rw [h]; exact ⟨fun _ _ _ _ => rfl, fun q => absurd q (Nat.not_lt_zero _)⟩
  | n + 1, T, hn, h => by
    obtain ⟨W', A, B, h1, nx, _, _, ph, _, eT⟩ := h
    obtain ⟨i1, _⟩ := phc_r hru n W' (by omega) h1
    have kA : KEP [(248, 272)] [] W' A := nx.1.kep rfl
    have kB : KEP [(248, 272)] [] A B := ph.2.2.2.1.kep rfl
    refine ⟨fun k j hk ne => ?_, fun _ => ?_⟩
    · rw [eT, Xi_ne (by omega), kB.x _ (inK_i (a := 248) (b := 272) (List.mem_cons_self ..) (by omega) (by omega)), kA.x _ (inK_i (a := 248) (b := 272) (List.mem_cons_self ..) (by omega) (by omega))]
      exact i1 k j hk ne
    · rw [eT, Xi_same (by unfold rg; omega)]; omega
/-- what a rule's row holds behind its phrases; the other rules' rows stay -/
theorem rlf_r {U U1 S T : sS} {ts ru N K : Nat} {s hd g : Int} (hru : ru < 24) (hK : 0 < K) (eru : Xi U 246 2 = ru) (h : RULF U U1 S T ts ru N K s hd g) : ∃ A B' : sS, HDK U A B' ru s hd ∧ (∀ j : Nat, j ≠ 5 → j ≠ 6 → Xi U1 (248 + ru) j = Xi A (248 + ru) j) ∧ Xi U1 (248 + ru) 5 = N ∧ Xi U1 (248 + ru) 6 = K ∧ KRU U U1 ru ∧ Xi U1 246 2 = ru + 1 := by
  obtain ⟨A, B, A', B', C', D', E, W, hdk, _, F1, FB2, FR3, ⟨n6, _, b996, _, _⟩, _, ⟨K8, phc, eU, _⟩, _⟩ := h
  have kr := hdk.2.2.1
  obtain ⟨p1, p2⟩ := phc_r hru K W K8 phc
  have kB : ∀ k j : Nat, k < 24 → Xi B (248 + k) j = Xi A (248 + k) j := fun k j hk => (FB2.kep rfl : KEP [(248, 272)] [] A B).x _ (inK_i (a := 248) (b := 272) (List.mem_cons_self ..) (by omega) (by omega)) j
  have b2 : Xi B 246 2 = Xi U 246 2 := by rw [FB2.x 246 2 rfl, F1.x 246 2 rfl]
  refine ⟨A, B', hdk, fun j h5 h6 => ?_, ?_, ?_, fun k j hk ne => ?_, ?_⟩
  · rw [eU, Xi_ne (by omega), Xi_ne (by omega), p1 ru j hru (by omega), kB ru j hru]
  · rw [eU, Xi_ne (by omega), Xi_same (by unfold rg; omega)]; exact b996
  · rw [eU, Xi_ne (by omega), Xi_ne (by omega)]; exact p2 hK
  · rw [eU, Xi_ne (by omega), Xi_ne (by omega), p1 k j hk (by omega), kB k j hk]; exact kr k j hk ne
  · rw [eU, Xi_same (by unfold rg; omega), b2, eru]
end
section
/-! rules of both: the new rule -/
theorem rul_n {U U1 S T : sS} {ts ru N K : Nat} {s hd g : Int} (hs : s = 3 ∨ s = 4 ∨ s = 5 ∨ s = 6) (t3 : TX3 U) (hru : ru < 24) (hK : 0 < K) (eru : Xi U 246 2 = ru) (b5 : 0 ≤ Xi U 246 5) (s117 : 0 ≤ Xi S 904 117 ∧ Xi S 904 117 ≤ 5000) (s125 : 0 ≤ Xi S 904 125 ∧ Xi S 904 125 ≤ 5000) (s130 : 0 ≤ Xi S 904 130 ∧ Xi S 904 130 ≤ 24) (e70 : Xi S 904 70 = s) (n94 : Xi S 904 94 = N) (n98 : Xi S 904 98 = K) (h : RULF U U1 S T ts ru N K s hd g) : RUQ1 U1 T ru := by
  obtain ⟨A, B', hdk, r1, r5, r6, _, _⟩ := rlf_r hru hK eru h
  clear hdk r1 B' A
  obtain ⟨A, B, A', B', C', D', E, W, hdk, ⟨FPA, _, FB, eC⟩, F1, FB2, FR3, ⟨n6, b246, b996, bold, btst⟩, tr, ⟨K8, phc, eU, w246, _, wold, pgo⟩, ⟨f, P, _, ch, rp⟩, eT⟩ := h
  obtain ⟨p1, p2⟩ := phc_r hru K W K8 phc
  have kBA : ∀ j : Nat, Xi B (248 + ru) j = Xi A (248 + ru) j := fun j => (FB2.kep rfl : KEP [(248, 272)] [] A B).x _ (inK_i (a := 248) (b := 272) (List.mem_cons_self ..) (by omega) (by omega)) j
  have r1 : ∀ j : Nat, j ≠ 5 → j ≠ 6 → Xi U1 (248 + ru) j = Xi A (248 + ru) j := fun j h5 h6 => by rw [eU, Xi_ne (by omega), Xi_ne (by omega), p1 ru j hru (by omega), kBA]
  have FD := tsr_f N D' tr
  have FE := rph_f K E rp
  have kE : KEP [] [(904, 70), (904, 94), (904, 98), (904, 117), (904, 125), (904, 130)] S E := by
    refine KEP.tr (KEP.tr (T := C') ?_ (FD.kep rfl)) (FE.kep rfl)
    rw [eC]
    exact KEP.tr (KEP.tr (FPA.kep rfl) (FB.kep rfl)) (fr_u.kep rfl)
  have kH : ∀ c j : Nat, 979 ≤ c → c ≤ 983 → Xi T c j = Xi B' c j := fun c j h1 h2 => by
    have a : Xi T c j = Xi E c j := by
      rw [eT]
      unfold rlW
      rw [Xi_ne (by omega), Xi_ne (by omega), Xi_ne (by omega), Xi_ne (by omega), Xi_ne (by omega), Xi_ne (by omega), Xi_ne (by omega), Xi_ne (by omega)]
    have k : KEP [(978, 988)] [] B' E := by
      refine KEP.tr (KEP.tr (T := C') ?_ (FD.kep rfl)) (FE.kep rfl)
      rw [eC]
      exact fr_u.kep rfl
    rw [a]
    exact k.x _ (inK_i (a := 978) (b := 988) (List.mem_cons_self ..) (by omega) (by omega)) j
  have x70 : Xi E 904 70 = s := by rw [kE.f 904 70 (by decide)]; exact e70
  have x94 : Xi E 904 94 = N := by rw [kE.f 904 94 (by decide)]; exact n94
  have x98 : Xi E 904 98 = K := by rw [kE.f 904 98 (by decide)]; exact n98
  have x117 : Xi E 904 117 = Xi S 904 117 := kE.f 904 117 (by decide)
  have x125 : Xi E 904 125 = Xi S 904 125 := kE.f 904 125 (by decide)
  have x130 : Xi E 904 130 = Xi S 904 130 := kE.f 904 130 (by decide)
  obtain ⟨y1, y2, y3, y4, y5, y6, y7, _⟩ := rlw_x (E := E) (ru := ru) (q := Xi S 904 117 + N) (by omega) (by omega) (by omega) (by omega) (by omega) (by omega)
  rw [← eT] at y1 y2 y3 y4 y5 y6 y7
  rw [x70] at y1
  rw [x117] at y2
  rw [x94] at y3
  rw [x125] at y4 y7
  rw [x98] at y5 y6 y7
  obtain ⟨⟨h0, h7⟩, _, _, _, _, _, hs6, hsn⟩ := hdk
  have sor : soR s = 0 ∨ soR s = 1 ∨ soR s = 2 ∨ soR s = 3 := by unfold soR; (repeat' split) <;> omega
  have so3 : soR s = 3 ↔ s = 6 := by unfold soR; constructor <;> intro q <;> (repeat' split at q) <;> (repeat' split) <;> omega
  -- clauses
  have cWU : ∀ c j : Nat, Xi U1 (276 + c) j = Xi W (276 + c) j := fun c j => by rw [eU, Xi_ne (by omega), Xi_ne (by omega)]
  have cBU : ∀ c j : Nat, (c : Int) < Xi B 246 5 → Xi U1 (276 + c) j = Xi B (276 + c) j := fun c j hc => by rw [cWU]; exact wold c j hc
  have cAU : ∀ c j : Nat, (c : Int) < Xi A 246 5 → Xi U1 (276 + c) j = Xi A (276 + c) j := fun c j hc => by rw [cBU c j (by omega)]; exact bold c j hc
  have u246 : Xi U1 246 5 = Xi B 246 5 + K := by rw [eU, Xi_ne (by omega), Xi_ne (by omega)]; exact w246
  -- the class's world stays
  have kAU : KEP [(5, 6), (9, 10), (19, 20), (21, 22), (245, 246), (902, 904)] [(20, 1)] A U1 := KEP.tr (FB2.kep rfl) (FR3.kep rfl)
  have kUU : KEP [(5, 6), (9, 10), (19, 20), (21, 22), (245, 246), (902, 904)] [(20, 1)] U U1 := KEP.tr (F1.kep rfl) kAU
  have kBU : KEP [(5, 6), (9, 10), (19, 20), (21, 22), (245, 246), (902, 904)] [(20, 1)] B U1 := FR3.kep rfl
  have kUA : KEP [(5, 6), (9, 10), (19, 20), (21, 22), (245, 246), (902, 904)] [(20, 1)] U A := F1.kep rfl
  have txs : ∀ {X : sS}, TX3 X → KEP [(5, 6), (9, 10), (19, 20), (21, 22), (245, 246), (902, 904)] [(20, 1)] X U1 → ∀ j, Xi U1 (txr U1) j = Xi X (txr X) j := fun t k j => by
    rw [txr_k k (by decide)]
    rcases t with e | e | e <;> (rw [e]; exact k.x _ rfl j)
  have t3A : TX3 A := by unfold TX3; rw [txr_k kUA (by decide)]; exact t3
  have t3B : TX3 B := by unfold TX3; rw [txr_k (FB2.kep rfl : KEP [] [(20, 1)] A B) (by decide)]; exact t3A
  have s6 : ∀ j, Xi T 906 j = Xi E 906 j := fun j => by rw [eT]; exact (rlw_k (E := E) (l := ru) (q := Xi S 904 117 + N)).x 906 rfl j
  have ent : ∀ k j : Nat, 969 ≤ k → k ≤ 977 → Xi T k j = Xi E k j := fun k j h1 h2 => by
    rw [eT]
    unfold rlW
    rw [Xi_ne (by omega), Xi_ne (by omega), Xi_ne (by omega), Xi_ne (by omega), Xi_ne (by omega), Xi_ne (by omega), Xi_ne (by omega), Xi_ne (by omega)]
  obtain ⟨o1, _⟩ := rph_o (q0 := Xi S 904 117 + N) (p0 := Xi S 904 125) (by omega) (by omega) ch K E (Nat.le_refl _) rp
  -- the head
  have head : Xi A 246 5 = Xi U 246 5 + Xi A (248 + ru) 4 ∧ 0 ≤ Xi A (248 + ru) 4 ∧ HRT U1 T ru := by
    by_cases q : s = 6
    · obtain ⟨⟨a1, a2, a3, a4⟩, ⟨d1, d2, d3, d4⟩, e5, _⟩ := hs6 q
      refine ⟨by omega, by omega, Or.inl ⟨by rw [r1 0 (by decide) (by decide), h0]; exact so3.2 q, ⟨by rw [r1 1 (by decide) (by decide)]; exact a1, by rw [r1 2 (by decide) (by decide)]; exact a2, by rw [r1 3 (by decide) (by decide)]; exact a3, by rw [r1 4 (by decide) (by decide)]; exact a4⟩, ?_⟩⟩
      exact ⟨by rw [kH 979 ru (by omega) (by omega)]; exact d1, by rw [kH 980 ru (by omega) (by omega)]; exact d2, by rw [kH 981 ru (by omega) (by omega)]; exact d3, by rw [kH 982 ru (by omega) (by omega)]; exact d4⟩
    · obtain ⟨a, o, k, n, ⟨a1, a2, a3, a4⟩, ⟨d1, d2, d3, d4⟩, rgs, cds, _, e5, adh⟩ := hsn q
      refine ⟨by omega, by omega, Or.inr ⟨by rw [r1 0 (by decide) (by decide), h0]; exact fun z => q (so3.1 z), a, o, k, n, ⟨by rw [r1 1 (by decide) (by decide)]; exact a1, by rw [r1 2 (by decide) (by decide)]; exact a2, by rw [r1 3 (by decide) (by decide)]; exact a3, by rw [r1 4 (by decide) (by decide)]; exact a4⟩, ⟨by rw [kH 979 ru (by omega) (by omega)]; exact d1, by rw [kH 980 ru (by omega) (by omega)]; exact d2, by rw [kH 981 ru (by omega) (by omega)]; exact d3, by rw [kH 982 ru (by omega) (by omega)]; exact d4⟩, ?_, ?_, fun i hi => ?_⟩⟩
      · rw [kUU.x 5 rfl, kUU.x 5 rfl, kUU.x 5 rfl]; exact rgs
      · rw [kUU.x 19 rfl]; exact cds
      · obtain ⟨t, p, z1, z2, z3, z4⟩ := adh i hi
        rw [r1 7 (by decide) (by decide), h7, kH 983 _ (by omega) (by omega)]
        refine ⟨t, p, clm_e (fun j => cAU _ j (by omega)) z1, z2, fun y => by rw [kUU.x 5 rfl]; exact z3 y, fun y => ?_⟩
        rw [kUU.x 5 rfl, kUU.x 5 rfl, kUU.x 9 rfl]; exact z4 y
  obtain ⟨hA, h4, hrt⟩ := head
  have f7 : Xi U1 (248 + ru) 7 = Xi U 246 5 := by rw [r1 7 (by decide) (by decide)]; exact h7
  have f4 : Xi U1 (248 + ru) 4 = Xi A (248 + ru) 4 := r1 4 (by decide) (by decide)
  have f0 : Xi U1 (248 + ru) 0 = soR s := by rw [r1 0 (by decide) (by decide)]; exact h0
  refine ⟨⟨by rw [f0, y1, soq_r], by omega, by omega⟩, hrt, ⟨by rw [r5, y3], by omega, by omega⟩, ⟨by rw [r6, y5], by omega, by omega⟩, ⟨by omega, by omega, by rw [f7, f4, y3, y5, u246, b246, hA]; omega⟩, ⟨by omega, by rw [y2, y3, y5, y6]; omega⟩, ⟨by omega, by rw [y4, y5, y7]; omega⟩, fun k hk => ?_, fun k hk => ?_⟩
  · rw [y3] at hk
    obtain ⟨fm, i, w, hh, t, q, m, z1, z2⟩ := btst k (by omega)
    rw [f7, f4, y2, show (Xi U 246 5 + Xi A (248 + ru) 4).toNat = (Xi A 246 5).toNat by omega, show (Xi S 904 117).toNat + k = (Xi S 904 117 + k).toNat by omega]
    refine ⟨fm, i, w, hh, t, q, m, clm_e (fun j => cBU _ j (by omega)) z1, tqf_u (fun j => by rw [kAU.x 5 rfl]; exact Int.le_refl _) (fun p _ => kAU.x 9 rfl p) (txs t3A kAU) (tqf_k (fun k' k1 k2 => ?_) (fun j => ?_) z2)⟩
    · rw [ent k' _ (by omega) (by omega)]; exact o1 k' _ k1 k2 (by omega)
    · rw [s6]; exact (FE.kep rfl : KEP [(906, 907)] [] D' E).x 906 rfl j
  · rw [y5] at hk
    obtain ⟨⟨fm, i, w, hh, t, q, m, z1, z2⟩, _⟩ := pgo k (by omega)
    rw [f7, f4, y3, y2, y4, show (Xi U 246 5 + Xi A (248 + ru) 4 + (N : Int)).toNat = (Xi B 246 5).toNat by omega, show (Xi S 904 125).toNat + k = (Xi S 904 125 + k).toNat by omega, show (Xi S 904 117 + (N : Int)).toNat + k = (Xi S 904 117 + N + k).toNat by omega]
    exact ⟨fm, i, w, hh, t, q, m, clm_e (fun j => cWU _ j) z1, pqf_u (fun j => by rw [kBU.x 5 rfl]; exact Int.le_refl _) (fun p _ => kBU.x 9 rfl p) (fun p _ => kBU.x 19 rfl p) (txs t3B kBU) (pqf_k (fun k' k1 k2 => ent k' _ (by omega) (by omega)) (fun k' k1 => ent k' _ (by omega) (by omega)) s6 z2)⟩
end
section
/-! rules of both: rules told before stay -/
theorem rul_o {U U1 S T : sS} {ts ru r N K : Nat} {s hd g : Int} (t3 : TX3 U) (hru : ru < 24) (hK : 0 < K) (hr : r < ru) (eru : Xi U 246 2 = ru) (b5 : 0 ≤ Xi U 246 5) (s117 : 0 ≤ Xi S 904 117 ∧ Xi S 904 117 ≤ 5000) (s125 : 0 ≤ Xi S 904 125 ∧ Xi S 904 125 ≤ 5000) (s130 : 0 ≤ Xi S 904 130 ∧ Xi S 904 130 ≤ 24) (n94 : Xi S 904 94 = N) (n98 : Xi S 904 98 = K) (h : RULF U U1 S T ts ru N K s hd g) (x : RUQ1 U S r) : RUQ1 U1 T r := by
  obtain ⟨_, _, _, _, _, _, kru, _⟩ := rlf_r hru hK eru h
  have R : ∀ j : Nat, Xi U1 (248 + r) j = Xi U (248 + r) j := fun j => kru r j (by omega) (by omega)
  obtain ⟨A, B, A', B', C', D', E, W, hdk, ⟨FPA, kre, FB, eC⟩, F1, FB2, FR3, ⟨n6, b246, b996, bold, btst⟩, tr, ⟨K8, phc, eU, w246, _, wold, pgo⟩, ⟨f, P, _, ch, rp⟩, eT⟩ := h
  have FD := tsr_f N D' tr
  have FE := rph_f K E rp
  have kE : KEP [] [(904, 94), (904, 98), (904, 117), (904, 125), (904, 130)] S E := by
    refine KEP.tr (KEP.tr (T := C') ?_ (FD.kep rfl)) (FE.kep rfl)
    rw [eC]
    exact KEP.tr (KEP.tr (FPA.kep rfl) (FB.kep rfl)) (fr_u.kep rfl)
  have x94 : Xi E 904 94 = N := by rw [kE.f 904 94 (by decide)]; exact n94
  have x98 : Xi E 904 98 = K := by rw [kE.f 904 98 (by decide)]; exact n98
  have x117 : Xi E 904 117 = Xi S 904 117 := kE.f 904 117 (by decide)
  have x125 : Xi E 904 125 = Xi S 904 125 := kE.f 904 125 (by decide)
  have x130 : Xi E 904 130 = Xi S 904 130 := kE.f 904 130 (by decide)
  obtain ⟨_, _, _, _, _, y6, y7, _⟩ := rlw_x (E := E) (ru := ru) (q := Xi S 904 117 + N) (by omega) (by omega) (by omega) (by omega) (by omega) (by omega)
  rw [← eT] at y6 y7
  rw [x98] at y6 y7
  rw [x125] at y7
  -- the reference's entries of the rule
  have kBE : KEP [(978, 988)] [] B' E := by
    refine KEP.tr (KEP.tr (T := C') ?_ (FD.kep rfl)) (FE.kep rfl)
    rw [eC]
    exact fr_u.kep rfl
  have ine : ∀ c : Nat, 978 ≤ c → c ≤ 987 → inK [(978, 988)] c = true := fun c h1 h2 => inK_i (a := 978) (b := 988) (List.mem_cons_self ..) (by omega) (by omega)
  have kSA : KEP [(978, 988)] [] S A' := FPA.kep rfl
  have ke := rlw_e (E := E) (ru := ru) (q := Xi S 904 117 + N)
  rw [← eT] at ke
  have H : ∀ c : Nat, 978 ≤ c → c ≤ 987 → c ≠ 983 → Xi T c r = Xi S c r := fun c h1 h2 h3 => by
    rw [ke.1 c r h1 h2 h3 (by omega), kBE.x c (ine c h1 h2), kre.1 c r h1 h2 h3 (by omega), kSA.x c (ine c h1 h2)]
  have H3 : ∀ j : Nat, j < 6 * ru → Xi T 983 j = Xi S 983 j := fun j hj => by
    rw [ke.2 j (Or.inl hj), kBE.x 983 rfl, kre.2 j (Or.inl hj), kSA.x 983 rfl]
  -- its tests and phrases
  have kSC : KEP [(906, 907), (969, 978)] [(904, 117)] S C' := by rw [eC]; exact KEP.tr (KEP.tr (FPA.kep rfl) (FB.kep rfl)) (fr_u.kep rfl)
  have c117 : Xi C' 904 117 = Xi S 904 117 := kSC.f 904 117 (by decide)
  have inq : ∀ c : Nat, 969 ≤ c → c ≤ 977 → inK [(906, 907), (969, 978)] c = true := fun c h1 h2 => inK_i (a := 969) (b := 978) (List.mem_cons_of_mem _ (List.mem_cons_self ..)) (by omega) (by omega)
  obtain ⟨o1, o2⟩ := rph_o (q0 := Xi S 904 117 + N) (p0 := Xi S 904 125) (by omega) (by omega) ch K E (Nat.le_refl _) rp
  have ent : ∀ k j : Nat, 969 ≤ k → k ≤ 977 → Xi T k j = Xi E k j := fun k j h1 h2 => by
    rw [eT]
    unfold rlW
    rw [Xi_ne (by omega), Xi_ne (by omega), Xi_ne (by omega), Xi_ne (by omega), Xi_ne (by omega), Xi_ne (by omega), Xi_ne (by omega), Xi_ne (by omega)]
  have Q : ∀ k j : Nat, 969 ≤ k → k ≤ 975 → (j : Int) < Xi S 904 117 → Xi T k j = Xi S k j := fun k j h1 h2 hj => by
    rw [ent k j h1 (by omega), o1 k j h1 h2 (by omega), tsr_o (by omega) N D' tr j (Or.inl (by omega)) k h1 h2, kSC.x k (inq k h1 (by omega))]
  have Pq : ∀ k j : Nat, k = 976 ∨ k = 977 → (j : Int) < Xi S 904 125 → Xi T k j = Xi S k j := fun k j h1 hj => by
    rw [ent k j (by omega) (by omega), o2 k j h1 hj, ← kSC.x k (inq k (by omega) (by omega))]
    rcases h1 with rfl | rfl <;> exact (FD.kep rfl : KEP [(976, 978)] [] C' D').x _ rfl j
  have s6 : ∀ j, Xi T 906 j = Xi S 906 j := fun j => by
    rw [eT, (rlw_k (E := E) (l := ru) (q := Xi S 904 117 + N)).x 906 rfl, (FE.kep rfl : KEP [(906, 907)] [] D' E).x 906 rfl, (FD.kep rfl : KEP [(906, 907)] [] C' D').x 906 rfl, kSC.x 906 rfl]
  -- clauses
  have hd5 : Xi U 246 5 ≤ Xi A 246 5 := by
    by_cases q : s = 6
    · have := (hdk.2.2.2.2.2.2.1 q).2.2.1; omega
    · obtain ⟨a, o, k, n, hq⟩ := hdk.2.2.2.2.2.2.2 q
      have h6 := hq.2.2.2.2.2.1
      have h3 := hq.2.2.1.2.2.2
      omega
  have cU : ∀ c j : Nat, (c : Int) < Xi U 246 5 → Xi U1 (276 + c) j = Xi U (276 + c) j := fun c j hc => by
    rw [eU, Xi_ne (by omega), Xi_ne (by omega), wold c j (by omega), bold c j (by omega), hdk.2.2.2.1 c j hc]
  have u246 : Xi U1 246 5 = Xi B 246 5 + K := by rw [eU, Xi_ne (by omega), Xi_ne (by omega)]; exact w246
  have kUU : KEP [(5, 6), (9, 10), (19, 20), (21, 22), (245, 246), (902, 904)] [(20, 1)] U U1 := KEP.tr (F1.kep rfl) (KEP.tr (FB2.kep rfl) (FR3.kep rfl))
  have txs : ∀ j, Xi U1 (txr U1) j = Xi U (txr U) j := fun j => by
    rw [txr_k kUU (by decide)]
    rcases t3 with e | e | e <;> (rw [e]; exact kUU.x _ rfl j)
  obtain ⟨a0, a1, a2, a3, a4, a5, a6, a7, a8⟩ := x
  have hrt : HRT U1 T r := by
    rcases a1 with ⟨z1, z2, z3⟩ | ⟨z1, a, o, k, n, z2, z3, z4, z5, z6⟩
    · refine Or.inl ⟨by rw [R]; exact z1, by rw [R, R, R, R]; exact z2, ?_⟩
      rw [H 979 (by omega) (by omega) (by omega), H 980 (by omega) (by omega) (by omega), H 981 (by omega) (by omega) (by omega), H 982 (by omega) (by omega) (by omega)]
      exact z3
    · refine Or.inr ⟨by rw [R]; exact z1, a, o, k, n, by rw [R, R, R, R]; exact z2, ?_, by rw [kUU.x 5 rfl, kUU.x 5 rfl, kUU.x 5 rfl]; exact z4, by rw [kUU.x 19 rfl]; exact z5, fun i hi => ?_⟩
      · rw [H 979 (by omega) (by omega) (by omega), H 980 (by omega) (by omega) (by omega), H 981 (by omega) (by omega) (by omega), H 982 (by omega) (by omega) (by omega)]
        exact z3
      · obtain ⟨t, p, v1, v2, v3, v4⟩ := z6 i hi
        have n5 := z4.2.2.2
        have e4 := z2.2.2.2
        rw [R, H3 _ (by omega)]
        refine ⟨t, p, clm_e (fun j => cU _ j (by omega)) v1, v2, fun y => by rw [kUU.x 5 rfl]; exact v3 y, fun y => ?_⟩
        rw [kUU.x 5 rfl, kUU.x 5 rfl, kUU.x 9 rfl]; exact v4 y
  have e5 := H 985 (by omega) (by omega) (by omega)
  have e7 := H 987 (by omega) (by omega) (by omega)
  have e4 := H 984 (by omega) (by omega) (by omega)
  have e6 := H 986 (by omega) (by omega) (by omega)
  refine ⟨by rw [R, H 978 (by omega) (by omega) (by omega)]; exact a0, hrt, by rw [R, e5]; exact a2, by rw [R, e7]; exact a3, by rw [R, R, e5, e7]; exact ⟨a4.1, a4.2.1, by omega⟩, by rw [e4, e5, e7]; exact ⟨a5.1, by omega⟩, by rw [e6, e7]; exact ⟨a6.1, by omega⟩, fun k hk => ?_, fun k hk => ?_⟩
  · rw [e5] at hk
    rw [R, R, e4]
    obtain ⟨fm, i, w, hh, t, q, m, z1, z2⟩ := a7 k hk
    exact ⟨fm, i, w, hh, t, q, m, clm_e (fun j => cU _ j (by omega)) z1, tqf_u (fun j => by rw [kUU.x 5 rfl]; exact Int.le_refl _) (fun p _ => kUU.x 9 rfl p) txs (tqf_k (fun k' k1 k2 => Q k' _ k1 k2 (by omega)) s6 z2)⟩
  · rw [e7] at hk
    rw [R, R, e4, e5, e6]
    obtain ⟨fm, i, w, hh, t, q, m, z1, z2⟩ := a8 k hk
    exact ⟨fm, i, w, hh, t, q, m, clm_e (fun j => cU _ j (by omega)) z1, pqf_u (fun j => by rw [kUU.x 5 rfl]; exact Int.le_refl _) (fun p _ => kUU.x 9 rfl p) (fun p _ => kUU.x 19 rfl p) txs (pqf_k (fun k' k1 k2 => Q k' _ k1 k2 (by omega)) (fun k' k1 => Pq k' _ k1 (by omega)) s6 z2)⟩
end
section
/-! rules of both: behind a rule the relation of rules holds, and the book's counts -/
theorem ruls_3 {U U1 S T : sS} {ts ru N K : Nat} {s hd g : Int} (hs : s = 3 ∨ s = 4 ∨ s = 5 ∨ s = 6) (t3 : TX3 U) (bk : BKC U S) (c53 : Xi U 5 3 ≤ 24) (hru : ru < 24) (hK : 0 < K) (eru : Xi U 246 2 = ru) (e70 : Xi S 904 70 = s) (n94 : Xi S 904 94 = N) (n98 : Xi S 904 98 = K) (h : RULF U U1 S T ts ru N K s hd g) (x : RULS U S) : RULS U1 T := by
  obtain ⟨k1, k2, k3, k4, _⟩ := bk
  obtain ⟨_, _, _, _, _, _, _, e2⟩ := rlf_r hru hK eru h
  intro r hr
  by_cases q : r < ru
  · exact rul_o t3 hru hK q eru k1.1 (by omega) (by omega) (by omega) n94 n98 h (x r (by omega))
  · have : r = ru := by omega
    subst this
    exact rul_n hs t3 hru hK eru k1.1 (by omega) (by omega) (by omega) e70 n94 n98 h
theorem bkc_3 {U U1 S T : sS} {ts ru N K : Nat} {s hd g : Int} (bk : BKC U S) (c53 : Xi U 5 3 ≤ 24) (hru : ru < 24) (hK : 0 < K) (eru : Xi U 246 2 = ru) (n94 : Xi S 904 94 = N) (n98 : Xi S 904 98 = K) (h : RULF U U1 S T ts ru N K s hd g) : BKC U1 T := by
  obtain ⟨k1, k2, k3, k4, k5⟩ := bk
  obtain ⟨_, _, _, _, _, _, _, e2⟩ := rlf_r hru hK eru h
  obtain ⟨A, B, A', B', C', D', E, W, hdk, ⟨FPA, kre, FB, eC⟩, F1, FB2, FR3, ⟨n6, b246, b996, bold, btst⟩, tr, ⟨K8, phc, eU, w246, gri, wold, pgo⟩, ⟨f, P, _, ch, rp⟩, eT⟩ := h
  have FD := tsr_f N D' tr
  have FE := rph_f K E rp
  have kE : KEP [] [(904, 94), (904, 98), (904, 117), (904, 125), (904, 130)] S E := by
    refine KEP.tr (KEP.tr (T := C') ?_ (FD.kep rfl)) (FE.kep rfl)
    rw [eC]
    exact KEP.tr (KEP.tr (FPA.kep rfl) (FB.kep rfl)) (fr_u.kep rfl)
  have x94 : Xi E 904 94 = N := by rw [kE.f 904 94 (by decide)]; exact n94
  have x98 : Xi E 904 98 = K := by rw [kE.f 904 98 (by decide)]; exact n98
  have x117 : Xi E 904 117 = Xi S 904 117 := kE.f 904 117 (by decide)
  have x125 : Xi E 904 125 = Xi S 904 125 := kE.f 904 125 (by decide)
  have x130 : Xi E 904 130 = Xi S 904 130 := kE.f 904 130 (by decide)
  obtain ⟨_, _, _, _, _, y6, y7, y8⟩ := rlw_x (E := E) (ru := ru) (q := Xi S 904 117 + N) (by omega) (by omega) (by omega) (by omega) (by omega) (by omega)
  rw [← eT] at y6 y7 y8
  have hd5 : Xi U 246 5 ≤ Xi A 246 5 ∧ Xi A 246 5 ≤ Xi U 246 5 + 5 := by
    by_cases q : s = 6
    · have := (hdk.2.2.2.2.2.2.1 q).2.2.1; omega
    · obtain ⟨a, o, k, n, hq⟩ := hdk.2.2.2.2.2.2.2 q
      have h6 := hq.2.2.2.2.2.1
      have h3 := hq.2.2.1.2.2.2
      omega
  have u246 : Xi U1 246 5 = Xi B 246 5 + K := by rw [eU, Xi_ne (by omega), Xi_ne (by omega)]; exact w246
  have u8 : Xi U1 246 8 = Xi W 246 8 := by rw [eU, Xi_ne (by omega), Xi_ne (by omega)]
  have b8 : Xi B 246 8 = Xi U 246 8 := by rw [FB2.x 246 8 rfl, F1.x 246 8 rfl]
  have g8 := gri.1
  have c5 : Xi U1 5 3 = Xi U 5 3 := (KEP.tr (F1.kep rfl) (KEP.tr (FB2.kep rfl) (FR3.kep rfl)) : KEP [(5, 6)] [] U U1).x 5 rfl 3
  exact ⟨by omega, by omega, by omega, by omega, by omega⟩
end
section
/-! behind a rule: definitions and commands stay -/
theorem rlf_k {U U1 S T : sS} {ts ru N K : Nat} {s hd g : Int} (hru : ru < 24) (s117 : 0 ≤ Xi S 904 117) (s125 : 0 ≤ Xi S 904 125) (h : RULF U U1 S T ts ru N K s hd g) : (∀ c j : Nat, (c : Int) < Xi U 246 5 → Xi U1 (276 + c) j = Xi U (276 + c) j) ∧ (∀ i : Nat, (i : Int) < Xi S 904 117 → ∀ k : Nat, 969 ≤ k → k ≤ 975 → Xi T k i = Xi S k i) ∧ KEP [(5, 7), (9, 14), (19, 20), (245, 246), (902, 904), (883, 888)] [(20, 1), (882, 3)] U U1 ∧ KEP [(906, 907), (923, 924), (946, 950)] [(904, 55)] S T := by
  obtain ⟨A, B, A', B', C', D', E, W, hdk, ⟨FPA, kre, FB, eC⟩, F1, FB2, FR3, ⟨n6, b246, b996, bold, btst⟩, tr, ⟨K8, phc, eU, w246, _, wold, pgo⟩, ⟨f, P, _, ch, rp⟩, eT⟩ := h
  have FD := tsr_f N D' tr
  have FE := rph_f K E rp
  have kSC : KEP [(906, 907), (923, 924), (946, 950), (969, 978)] [(904, 55), (904, 117)] S C' := by rw [eC]; exact KEP.tr (KEP.tr (FPA.kep rfl) (FB.kep rfl)) (fr_u.kep rfl)
  have c117 : Xi C' 904 117 = Xi S 904 117 := kSC.f 904 117 (by decide)
  have inq : ∀ c : Nat, 969 ≤ c → c ≤ 977 → inK [(906, 907), (923, 924), (946, 950), (969, 978)] c = true := fun c h1 h2 => inK_i (a := 969) (b := 978) (List.mem_cons_of_mem _ (List.mem_cons_of_mem _ (List.mem_cons_of_mem _ (List.mem_cons_self ..)))) (by omega) (by omega)
  obtain ⟨o1, _⟩ := rph_o (q0 := Xi S 904 117 + N) (p0 := Xi S 904 125) (by omega) (by omega) ch K E (Nat.le_refl _) rp
  have kW : KEP [(906, 907), (923, 924), (946, 950)] [(904, 55)] E T := by
    rw [eT]
    unfold rlW
    exact KEP.tr (KEP.tr (KEP.tr (KEP.tr (KEP.tr (KEP.tr (KEP.tr (kep_u rfl) (kep_u rfl)) (kep_u rfl)) (kep_u rfl)) (kep_u rfl)) (kep_u rfl)) (kep_u rfl)) (kep_u rfl)
  have ent : ∀ k j : Nat, 969 ≤ k → k ≤ 977 → Xi T k j = Xi E k j := fun k j h1 h2 => by
    rw [eT]
    unfold rlW
    rw [Xi_ne (by omega), Xi_ne (by omega), Xi_ne (by omega), Xi_ne (by omega), Xi_ne (by omega), Xi_ne (by omega), Xi_ne (by omega), Xi_ne (by omega)]
  have hd5 : Xi U 246 5 ≤ Xi A 246 5 := by
    by_cases q : s = 6
    · have := (hdk.2.2.2.2.2.2.1 q).2.2.1; omega
    · obtain ⟨a, o, k, n, hq⟩ := hdk.2.2.2.2.2.2.2 q
      have h6 := hq.2.2.2.2.2.1
      have h3 := hq.2.2.1.2.2.2
      omega
  refine ⟨fun c j hc => ?_, fun j hj k h1 h2 => ?_, KEP.tr (F1.kep rfl) (KEP.tr (FB2.kep rfl) (FR3.kep rfl)), KEP.tr (KEP.tr (KEP.tr (kSC.le rfl (by decide)) (FD.kep rfl)) (FE.kep rfl)) kW⟩
  · rw [eU, Xi_ne (by omega), Xi_ne (by omega), wold c j (by omega), bold c j (by omega), hdk.2.2.2.1 c j hc]
  · rw [ent k j h1 (by omega), o1 k j h1 h2 (by omega), tsr_o (by omega) N D' tr j (Or.inl (by omega)) k h1 h2, kSC.x k (inq k h1 (by omega))]
theorem dfr_3 {U U1 S T : sS} {ts ru N K : Nat} {s hd g : Int} (t3 : TX3 U) (hru : ru < 24) (bk : BKC U S) (b1 : BKC U1 T) (g5 : Xi U 246 5 ≤ Xi U1 246 5) (g7 : Xi S 904 117 ≤ Xi T 904 117) (h : RULF U U1 S T ts ru N K s hd g) (x : DFR U S) : DFR U1 T := by
  obtain ⟨c1, c2, kU, kS⟩ := rlf_k hru bk.2.1.1 bk.2.2.1.1 h
  intro a ha e
  rw [kU.x 5 rfl] at ha
  rw [kU.x 11 rfl] at e
  refine df1_k (x a ha e) (kU.x 12 rfl a) (kU.x 13 rfl a) (kS.x 923 rfl a) g5 g7 c1 c2 (kS.x 906 rfl) (fun j => by rw [kU.x 5 rfl]; exact Int.le_refl _) (fun p _ => kU.x 9 rfl p) (fun j => ?_)
  rw [txr_k kU (by decide)]
  rcases t3 with e | e | e <;> (rw [e]; exact kU.x _ rfl j)
theorem rcm_3 {U U1 S T : sS} {ts ru N K : Nat} {s hd g : Int} (hru : ru < 24) (bk : BKC U S) (h : RULF U U1 S T ts ru N K s hd g) (x : RCM U S) : RCM U1 T := by
  obtain ⟨_, _, kU, kS⟩ := rlf_k hru bk.2.1.1 bk.2.2.1.1 h
  exact x.k (kU.le rfl (by decide)) (kS.le rfl (by decide)) (by rw [kU.x 5 rfl]; exact Int.le_refl _) (by rw [kU.x 5 rfl]; exact Int.le_refl _) (fun i _ => kU.x 19 rfl i) (fun k o _ => isKn_s7 (kU.x 6 rfl))
end
section
/-! rules, definitions, commands: they stay when both worlds grow -/
theorem tqf_w {U U1 S : sS} {q : Nat} {sk fm n w h t g m : Int} (c : ∀ j, j < 9 → Xi U 5 j ≤ Xi U1 5 j) (n9 : ∀ p : Nat, (p : Int) < Xi U 5 5 → Xi U1 9 p = Xi U 9 p) (tx : ∀ j, Xi U1 (txr U1) j = Xi U (txr U) j) (x : TQF U S q sk fm n w h t g m) : TQF U1 S q sk fm n w h t g m := by
  have mk : ∀ a b : Int, TMK sk (Xi U 5 2) a b → TMK sk (Xi U1 5 2) a b := fun a b y => by
    rcases y with y | y
    · exact Or.inl y
    · exact Or.inr ⟨⟨y.1.1, by have := c 2 (by decide); omega⟩, y.2⟩
  obtain ⟨x1, x2, x3⟩ := x
  refine ⟨x1, mk _ _ x2, ?_⟩
  have c3 := c 3 (by decide)
  have c4 := c 4 (by decide)
  have c5 := c 5 (by decide)
  have c6 := c 6 (by decide)
  rcases x3 with x | x | x | x | x | x | x
  · exact Or.inl ⟨x.1, x.2.1, x.2.2.1, mk _ _ x.2.2.2.1, x.2.2.2.2.1, x.2.2.2.2.2.1, by have := x.2.2.2.2.2.2; omega⟩
  · exact Or.inr (Or.inl ⟨x.1, x.2.1, mk _ _ x.2.2.1, x.2.2.2⟩)
  · exact Or.inr (Or.inr (Or.inl ⟨x.1, x.2.1, x.2.2.1, x.2.2.2.1, by have := x.2.2.2.2.1; omega, x.2.2.2.2.2⟩))
  · obtain ⟨y1, y2, y3, y4, y5, y6, y7, y8⟩ := x
    exact Or.inr (Or.inr (Or.inr (Or.inl ⟨y1, y2, y3, y4, y5, by omega, by omega, by rw [n9 _ (by omega)]; exact y8⟩)))
  · obtain ⟨y1, y2, y3, y4, y5, y6⟩ := x
    exact Or.inr (Or.inr (Or.inr (Or.inr (Or.inl ⟨y1, y2, y3, by omega, by rw [n9 _ (by omega)]; exact y5, y6⟩))))
  · obtain ⟨y1, y2, y3, y4, y5, y6⟩ := x
    exact Or.inr (Or.inr (Or.inr (Or.inr (Or.inr (Or.inl ⟨y1, y2, y3, by omega, by rw [n9 _ (by omega)]; exact y5, y6⟩)))))
  · obtain ⟨y1, y2, y3, y4, y5, y6, y7⟩ := x
    exact Or.inr (Or.inr (Or.inr (Or.inr (Or.inr (Or.inr ⟨y1, y2, y3, by omega, by rw [n9 _ (by omega)]; exact y5, y6, fun i i0 i1 => by rw [tx]; exact y7 i i0 i1⟩)))))
theorem tqr_w {U U1 S S1 : sS} {cl q : Nat} {sk : Int} (h : TQR U S cl q sk) (hc : ∀ j, Xi U1 (276 + cl) j = Xi U (276 + cl) j) (hq : ∀ k : Nat, 969 ≤ k → k ≤ 975 → Xi S1 k q = Xi S k q) (s6 : ∀ j, Xi S1 906 j = Xi S 906 j) (c : ∀ j, j < 9 → Xi U 5 j ≤ Xi U1 5 j) (n9 : ∀ p : Nat, (p : Int) < Xi U 5 5 → Xi U1 9 p = Xi U 9 p) (tx : ∀ j, Xi U1 (txr U1) j = Xi U (txr U) j) : TQR U1 S1 cl q sk := by
  obtain ⟨fm, n, w, h, t, g, m, x, y⟩ := h
  refine ⟨fm, n, w, h, t, g, m, ?_, tqf_w c n9 tx (tqf_k hq s6 y)⟩
  unfold CLM at x ⊢
  simp only [hc]
  exact x
theorem df1_w {U U1 S S1 : sS} {a : Nat} (h : DF1 U S a) (e12 : Xi U1 12 a = Xi U 12 a) (e13 : Xi U1 13 a = Xi U 13 a) (e23 : Xi S1 923 a = Xi S 923 a) (g5 : Xi U 246 5 ≤ Xi U1 246 5) (g7 : Xi S 904 117 ≤ Xi S1 904 117) (hc : ∀ c j : Nat, (c : Int) < Xi U 246 5 → Xi U1 (276 + c) j = Xi U (276 + c) j) (hq : ∀ i : Nat, (i : Int) < Xi S 904 117 → ∀ k : Nat, 969 ≤ k → k ≤ 975 → Xi S1 k i = Xi S k i) (s6 : ∀ j, Xi S1 906 j = Xi S 906 j) (c : ∀ j, j < 9 → Xi U 5 j ≤ Xi U1 5 j) (n9 : ∀ p : Nat, (p : Int) < Xi U 5 5 → Xi U1 9 p = Xi U 9 p) (tx : ∀ j, Xi U1 (txr U1) j = Xi U (txr U) j) : DF1 U1 S1 a := by
  obtain ⟨h1, h2, h3, h4⟩ := h
  unfold DF1
  rw [e12, e13, e23]
  exact ⟨by omega, by omega, h3, fun k hk => tqr_w (h4 k hk) (fun j => hc _ j (by omega)) (hq _ (by omega)) s6 c n9 tx⟩
theorem pqf_w {U U1 S : sS} {p q : Nat} {fm n w h t g m : Int} (c : ∀ j, j < 9 → Xi U 5 j ≤ Xi U1 5 j) (n9 : ∀ p : Nat, (p : Int) < Xi U 5 5 → Xi U1 9 p = Xi U 9 p) (n19 : ∀ a : Nat, (a : Int) < Xi U 5 8 → Xi U1 19 a = Xi U 19 a) (tx : ∀ j, Xi U1 (txr U1) j = Xi U (txr U) j) (x : PQF U S p q fm n w h t g m) : PQF U1 S p q fm n w h t g m := by
  obtain ⟨x0, x⟩ := x
  refine ⟨x0, ?_⟩
  rcases x with ⟨y1, y2⟩ | x | ⟨y1, y2, y3, y4⟩ | ⟨y1, y2, y3, y4, y5, y6⟩ | ⟨y1, y2, y3, y4, y5⟩ | x
  · exact Or.inl ⟨y1, tqf_w c n9 tx y2⟩
  · exact Or.inr (Or.inl x)
  · exact Or.inr (Or.inr (Or.inl ⟨y1, y2, tmk_u (c 2 (by decide)) y3, tmk_u (c 2 (by decide)) y4⟩))
  · have k := c 5 (by decide)
    refine Or.inr (Or.inr (Or.inr (Or.inl ⟨y1, y2, tmk_u (c 2 (by decide)) y3, y4, ⟨y5.1, by omega⟩, ?_⟩)))
    rw [n9 h.toNat (by omega)]; exact y6
  · have k := c 8 (by decide)
    have e := n19 h.toNat (by omega)
    refine Or.inr (Or.inr (Or.inr (Or.inr (Or.inl ⟨y1, y2, y3, ⟨y4.1, by omega⟩, ?_⟩))))
    rcases y5 with ⟨z1, z2, z3⟩ | ⟨z1, z2, z3⟩
    · exact Or.inl ⟨z1, z2, by rw [e]; exact z3⟩
    · exact Or.inr ⟨z1, tmk_u (c 2 (by decide)) z2, by rw [e]; exact z3⟩
  · exact Or.inr (Or.inr (Or.inr (Or.inr (Or.inr x))))
theorem adh_w {U U1 : sS} {cl : Nat} {x : Int} (hc : ∀ j, Xi U1 (276 + cl) j = Xi U (276 + cl) j) (c : ∀ j, j < 9 → Xi U 5 j ≤ Xi U1 5 j) (n9 : ∀ p : Nat, (p : Int) < Xi U 5 5 → Xi U1 9 p = Xi U 9 p) (h : ADH U U cl x) : ADH U1 U1 cl x := by
  obtain ⟨t, p, v1, v2, v3, v4⟩ := h
  refine ⟨t, p, clm_e hc v1, v2, fun y => by have := v3 y; have := c 3 (by decide); omega, fun y => ?_⟩
  obtain ⟨u1, u2, u3⟩ := v4 y
  have k5 := c 5 (by decide)
  have k4 := c 4 (by decide)
  have pp : 0 ≤ p := by rcases v2 with z | z
                        · exact absurd z.1 y
                        · exact z.1.1
  refine ⟨by omega, by omega, ?_⟩
  rw [n9 p.toNat (by omega)]; exact u3
theorem ruq_w {U U1 S T : sS} {r : Nat} (R : ∀ j : Nat, Xi U1 (248 + r) j = Xi U (248 + r) j) (cU : ∀ c j : Nat, (c : Int) < Xi U 246 5 → Xi U1 (276 + c) j = Xi U (276 + c) j) (g5 : Xi U 246 5 ≤ Xi U1 246 5) (H : ∀ c : Nat, 978 ≤ c → c ≤ 987 → c ≠ 983 → Xi T c r = Xi S c r) (H3 : ∀ i : Nat, i < 6 → Xi T 983 (6 * r + i) = Xi S 983 (6 * r + i)) (Q : ∀ k j : Nat, 969 ≤ k → k ≤ 975 → (j : Int) < Xi S 904 117 → Xi T k j = Xi S k j) (Pq : ∀ k j : Nat, k = 976 ∨ k = 977 → (j : Int) < Xi S 904 125 → Xi T k j = Xi S k j) (s6 : ∀ j, Xi T 906 j = Xi S 906 j) (g7 : Xi S 904 117 ≤ Xi T 904 117) (g8 : Xi S 904 125 ≤ Xi T 904 125) (c : ∀ j, j < 9 → Xi U 5 j ≤ Xi U1 5 j) (n9 : ∀ p : Nat, (p : Int) < Xi U 5 5 → Xi U1 9 p = Xi U 9 p) (n19 : ∀ a : Nat, (a : Int) < Xi U 5 8 → Xi U1 19 a = Xi U 19 a) (txs : ∀ j, Xi U1 (txr U1) j = Xi U (txr U) j) (x : RUQ1 U S r) : RUQ1 U1 T r := by
  obtain ⟨a0, a1, a2, a3, a4, a5, a6, a7, a8⟩ := x
  have hrt : HRT U1 T r := by
    rcases a1 with ⟨z1, z2, z3⟩ | ⟨z1, a, o, k, n, z2, z3, z4, z5, z6⟩
    · refine Or.inl ⟨by rw [R]; exact z1, by rw [R, R, R, R]; exact z2, ?_⟩
      rw [H 979 (by omega) (by omega) (by omega), H 980 (by omega) (by omega) (by omega), H 981 (by omega) (by omega) (by omega), H 982 (by omega) (by omega) (by omega)]
      exact z3
    · have k8 := c 8 (by decide)
      have k2 := c 2 (by decide)
      have k0 := c 0 (by decide)
      have e19 := n19 a.toNat (by omega)
      refine Or.inr ⟨by rw [R]; exact z1, a, o, k, n, by rw [R, R, R, R]; exact z2, ?_, ⟨⟨z4.1.1, by omega⟩, ⟨z4.2.1.1, by omega⟩, ⟨z4.2.2.1.1, by omega⟩, z4.2.2.2⟩, by rw [e19]; exact z5, fun i hi => ?_⟩
      · rw [H 979 (by omega) (by omega) (by omega), H 980 (by omega) (by omega) (by omega), H 981 (by omega) (by omega) (by omega), H 982 (by omega) (by omega) (by omega)]
        exact z3
      · have n5 := z4.2.2.2
        have e4 := z2.2.2.2
        rw [R, H3 i (by omega)]
        exact adh_w (fun j => cU _ j (by omega)) c n9 (z6 i hi)
  have e5 := H 985 (by omega) (by omega) (by omega)
  have e7 := H 987 (by omega) (by omega) (by omega)
  have e4 := H 984 (by omega) (by omega) (by omega)
  have e6 := H 986 (by omega) (by omega) (by omega)
  refine ⟨by rw [R, H 978 (by omega) (by omega) (by omega)]; exact a0, hrt, by rw [R, e5]; exact a2, by rw [R, e7]; exact a3, by rw [R, R, e5, e7]; exact ⟨a4.1, a4.2.1, by omega⟩, by rw [e4, e5, e7]; exact ⟨a5.1, by omega⟩, by rw [e6, e7]; exact ⟨a6.1, by omega⟩, fun k hk => ?_, fun k hk => ?_⟩
  · rw [e5] at hk
    rw [R, R, e4]
    obtain ⟨fm, i, w, hh, t, q, m, z1, z2⟩ := a7 k hk
    exact ⟨fm, i, w, hh, t, q, m, clm_e (fun j => cU _ j (by omega)) z1, tqf_w c n9 txs (tqf_k (fun k' k1 k2 => Q k' _ k1 k2 (by omega)) s6 z2)⟩
  · rw [e7] at hk
    rw [R, R, e4, e5, e6]
    obtain ⟨fm, i, w, hh, t, q, m, z1, z2⟩ := a8 k hk
    exact ⟨fm, i, w, hh, t, q, m, clm_e (fun j => cU _ j (by omega)) z1, pqf_w c n9 n19 txs (pqf_k (fun k' k1 k2 => Q k' _ k1 k2 (by omega)) (fun k' k1 => Pq k' _ k1 (by omega)) s6 z2)⟩

/-- counts of the class, by the reference's -/
theorem gr_5 {U U1 S S1 : sS} (h : RCT U S) (h1 : RCT U1 S1) (g : GR S1 S) : ∀ j, j < 9 → Xi U 5 j ≤ Xi U1 5 j := fun j hj => by
  have x := g.1
  unfold RCT at h h1
  rcases (by omega : j = 0 ∨ j = 1 ∨ j = 2 ∨ j = 3 ∨ j = 4 ∨ j = 5 ∨ j = 6 ∨ j = 7 ∨ j = 8) with e | e | e | e | e | e | e | e | e <;> (rw [e]; omega)
theorem gr_9 {U U1 S S1 : sS} (h : RLW U S) (h1 : RLW U1 S1) (g : GR S1 S) (p : Nat) (hp : (p : Int) < Xi U 5 5) : Xi U1 9 p = Xi U 9 p := by
  have c := gr_5 h.2.2.1 h1.2.2.1 g 5 (by decide)
  have x := (h.2.2.2.2.1.2.1 p hp).1
  have y := (h1.2.2.2.2.1.2.1 p (by omega)).1
  have e := h.2.2.1.2.2.2.2.2.1.1
  rw [x, y]
  exact g.2.2.1 p (by omega)
theorem gr_19 {U U1 S S1 : sS} (h : RLW U S) (h1 : RLW U1 S1) (g : GR S1 S) (p : Nat) (hp : (p : Int) < Xi U 5 8) : Xi U1 19 p = Xi U 19 p := by
  have c := gr_5 h.2.2.1 h1.2.2.1 g 8 (by decide)
  have x := (h.2.2.2.2.2.2.2.2.1.2 p hp).1
  have y := (h1.2.2.2.2.2.2.2.2.1.2 p (by omega)).1
  have e := h.2.2.1.2.2.2.2.2.2.2.2.1
  rw [x, y]
  exact g.2.2.2 p (by omega)
theorem ruls_w {U U1 S S1 : sS} (h : RLW U S) (h1 : RLW U1 S1) (g : GR S1 S) (bk : BKC U S) (R : ∀ r j : Nat, r < 24 → Xi U1 (248 + r) j = Xi U (248 + r) j) (cU : ∀ c j : Nat, (c : Int) < Xi U 246 5 → Xi U1 (276 + c) j = Xi U (276 + c) j) (g5 : Xi U 246 5 ≤ Xi U1 246 5) (e2 : Xi U1 246 2 = Xi U 246 2) (kS : KEP [(906, 907), (976, 988)] [] S S1) (Q : ∀ k j : Nat, 969 ≤ k → k ≤ 975 → (j : Int) < Xi S 904 117 → Xi S1 k j = Xi S k j) (g7 : Xi S 904 117 ≤ Xi S1 904 117) (g8 : Xi S 904 125 ≤ Xi S1 904 125) (txs : ∀ j, Xi U1 (txr U1) j = Xi U (txr U) j) (ru : RULS U S) : RULS U1 S1 := fun r hr => by
  rw [e2] at hr
  have b := bk.2.2.2.1
  have inq : ∀ c : Nat, 976 ≤ c → c ≤ 987 → inK [(906, 907), (976, 988)] c = true := fun c h1 h2 => inK_i (a := 976) (b := 988) (List.mem_cons_of_mem _ (List.mem_cons_self ..)) (by omega) (by omega)
  exact ruq_w (fun j => R r j (by omega)) cU g5 (fun c c1 c2 _ => kS.x c (inq c (by omega) (by omega)) r) (fun i _ => kS.x 983 rfl _) Q (fun k j c1 _ => kS.x k (inq k (by omega) (by omega)) j) (kS.x 906 rfl) g7 g8 (gr_5 h.2.2.1 h1.2.2.1 g) (gr_9 h h1 g) (gr_19 h h1 g) txs (ru r hr)
def cGk : List (Nat × Nat) := [(12, 13), (245, 876), (902, 904)]
def cHk : List (Nat × Nat) := [(906, 907), (969, 973), (975, 988)]
def cHf : List (Nat × Nat) := [(904, 117), (904, 125), (904, 130)]
theorem inK_g {c : Nat} (h0 : 245 ≤ c) (h1 : c < 876) : inK cGk c = true := inK_i (a := 245) (b := 876) (List.mem_cons_of_mem _ (List.mem_cons_self ..)) (by omega) (by omega)
/-- sentences that tell no rule and no definition -/
theorem grow_r {U U1 S S1 : sS} (h : RLW U S) (h1 : RLW U1 S1) (t3 : TX3 U) (g : GR S1 S) (kU : KEP cGk [(20, 1)] U U1) (kS : KEP cHk cHf S S1) (q3 : ∀ k j : Nat, k = 973 ∨ k = 974 → (j : Int) < Xi S 904 117 → Xi S1 k j = Xi S k j) (na : ∀ a : Nat, Xi U 5 3 ≤ (a : Int) → (a : Int) < Xi U1 5 3 → Xi U1 11 a ≠ -1) (bk : BKC U S) (df : DFR U S) (ru : RULS U S) : BKC U1 S1 ∧ DFR U1 S1 ∧ RULS U1 S1 := by
  have c := gr_5 h.2.2.1 h1.2.2.1 g
  have c3 := c 3 (by decide)
  have k117 : Xi S1 904 117 = Xi S 904 117 := kS.f 904 117 (by decide)
  have k125 : Xi S1 904 125 = Xi S 904 125 := kS.f 904 125 (by decide)
  have k130 : Xi S1 904 130 = Xi S 904 130 := kS.f 904 130 (by decide)
  have u2 : Xi U1 246 2 = Xi U 246 2 := kU.x 246 rfl 2
  have u5 : Xi U1 246 5 = Xi U 246 5 := kU.x 246 rfl 5
  have u8 : Xi U1 246 8 = Xi U 246 8 := kU.x 246 rfl 8
  have b1 : BKC U1 S1 := by
    unfold BKC at bk ⊢
    rw [k117, k125, k130, u2, u5, u8]
    omega
  have Q : ∀ k j : Nat, 969 ≤ k → k ≤ 975 → (j : Int) < Xi S 904 117 → Xi S1 k j = Xi S k j := fun k j a b hj => by
    rcases (by omega : k = 969 ∨ k = 970 ∨ k = 971 ∨ k = 972 ∨ k = 973 ∨ k = 974 ∨ k = 975) with u | u | u | u | u | u | u
    · rw [u]; exact kS.x _ rfl _
    · rw [u]; exact kS.x _ rfl _
    · rw [u]; exact kS.x _ rfl _
    · rw [u]; exact kS.x _ rfl _
    · exact q3 k j (Or.inl u) hj
    · exact q3 k j (Or.inr u) hj
    · rw [u]; exact kS.x _ rfl _
  have txs : ∀ j, Xi U1 (txr U1) j = Xi U (txr U) j := fun j => by
    rw [txr_k kU (by decide)]
    rcases t3 with e | e | e <;> (rw [e]; exact kU.x _ rfl j)
  have cU : ∀ c j : Nat, (c : Int) < Xi U 246 5 → Xi U1 (276 + c) j = Xi U (276 + c) j := fun c j hc => by
    have b := bk
    have d3 := h.2.2.1.2.2.2.1
    unfold BKC at b
    exact kU.x _ (inK_g (by omega) (by omega)) j
  refine ⟨b1, fun a ha e => ?_, ?_⟩
  · by_cases q : (a : Int) < Xi U 5 3
    · have d3 := h.2.2.1.2.2.2.1
      obtain ⟨_, r1, r2, _, r4⟩ := h.2.2.2.2.2.1 a q
      obtain ⟨_, s1, s2, _, s4⟩ := h1.2.2.2.2.2.1 a ha
      obtain ⟨g1, g2, g3⟩ := g.2.1 a (by omega)
      have e0 : Xi U 11 a = -1 := by omega
      exact df1_w (df a q e0) (kU.x 12 rfl a) (by rw [s4 e, r4 e0, g3]) g2 (by omega) (by omega) cU (fun i hi k k0 k1 => Q k i k0 k1 hi) (kS.x 906 rfl) c (gr_9 h h1 g) txs
    · exact absurd e (na a (by omega) ha)
  · refine ruls_w h h1 g bk (fun r j hr => kU.x _ (inK_g (by omega) (by omega)) j) cU (by omega) u2 (kS.le rfl (by decide)) Q (by omega) (by omega) txs ru
theorem grow_c {U U1 S S1 : sS} (h : RLW U S) (h1 : RLW U1 S1) (g : GR S1 S) (kU : KEP [(883, 888)] [(882, 3)] U U1) (kS : KEP [(946, 950)] [(904, 55)] S S1) (kk : ∀ k o : Int, k < Xi U 5 0 → isK U1 k o = isK U k o) (cm : RCM U S) : RCM U1 S1 := by
  have c := gr_5 h.2.2.1 h1.2.2.1 g
  exact cm.k kU kS (c 8 (by decide)) (c 0 (by decide)) (gr_19 h h1 g) kk
end
section
/-! where a sentence's parts lie -/
def gOK (x : Int × Int) (b : Int) : Prop := x.1 ≠ 0 ∧ x.2 = b
theorem ok_1 {x : Int × Int} {b : Int} (h : x = (1, b)) : gOK x b := by rw [h]; exact ⟨one0, rfl⟩
theorem ok_sq {x : Int × Int} {f : Int → Int × Int} {b : Int} (h : gOK (gSq x f) b) : ∃ a, gOK x a ∧ gOK (f a) b := by
  unfold gSq at h
  by_cases q : x.1 = 0
  · rw [if_pos q] at h; exact absurd q h.1
  · rw [if_neg q] at h; exact ⟨x.2, ⟨q, rfl⟩, h⟩
theorem ok_or {x : Int × Int} {f : Int → Int × Int} {b : Int} (h : gOK (gOr x f) b) : gOK x b ∨ (x.1 = 0 ∧ gOK (f x.2) b) := by
  unfold gOr at h
  by_cases q : x.1 = 0
  · rw [if_pos q] at h; exact Or.inr ⟨q, h⟩
  · rw [if_neg q] at h; exact Or.inl h
theorem ok_T {T : Int → Int} {k a b : Int} (h : gOK (gT T k a) b) : T a = k ∧ b = a + 1 := by
  unfold gT at h
  by_cases q : T a = k
  · rw [if_pos q] at h; exact ⟨q, h.2.symm⟩
  · rw [if_neg q] at h; exact absurd rfl h.1
theorem ok_Tn {T : Int → Int} {k a : Int} (h : (gT T k a).1 = 0) : T a ≠ k ∧ (gT T k a).2 = a := by
  unfold gT at h ⊢
  by_cases q : T a = k
  · rw [if_pos q] at h; exact absurd h one0
  · rw [if_neg q]; exact ⟨q, rfl⟩
theorem ok_Ty {T : Int → Int} {k a : Int} (h : (gT T k a).1 ≠ 0) : T a = k ∧ (gT T k a).2 = a + 1 := ok_T ⟨h, rfl⟩
theorem ok_A {T : Int → Int} {a b : Int} (h : gOK (gA T a) b) : art7 (T a) ∧ b = a + 1 := by
  unfold gA at h
  by_cases q : art7 (T a)
  · rw [if_pos q] at h; exact ⟨q, h.2.symm⟩
  · rw [if_neg q] at h; exact absurd rfl h.1
theorem ok_R {T : Int → Int} {a b : Int} (h : gOK (gR T a) b) : T a = 100 ∧ b = re7 T a := by
  unfold gR at h
  by_cases q : T a = 100
  · exact ⟨q, h.2.symm⟩
  · rw [if_neg q] at h; exact absurd rfl h.1
theorem ok_N {T : Int → Int} {a b : Int} (h : gOK (gN T a) b) : T (bA T a) = 100 ∧ b = re7 T (bA T a) := ok_R h
theorem ok_Be {T : Int → Int} {a b : Int} (h : gOK (gBe T a) b) : (T a = 4 ∨ T a = 5) ∧ b = a + 1 := by
  rcases gBe_cs T a with ⟨e, q⟩ | e
  · rw [e] at h; exact ⟨q, h.2.symm⟩
  · rw [e] at h; exact absurd rfl h.1
theorem ok_How {T : Int → Int} {a b : Int} (h : gOK (gHow T a) b) : (T a = 22 ∨ T a = 23) ∧ b = a + 1 := by
  by_cases q : T a = 22 ∨ T a = 23
  · rw [gHow_1 q] at h; exact ⟨q, h.2.symm⟩
  · rw [gHow_0 (fun w => q (Or.inl w)) (fun w => q (Or.inr w))] at h; exact absurd rfl h.1
theorem ok_o {T : Int → Int} {b : Int} (h : gOK (chk T) b) (n : T 0 ≠ 102 ∧ T 0 ≠ 33 ∧ T 0 ≠ 35 ∧ T 0 ≠ 38 ∧ T 0 ≠ 40 ∧ T 0 ≠ 39 ∧ T 0 ≠ 41) : gOK (ckO T) b := by
  unfold chk at h
  rw [if_neg (by omega), if_neg (by omega), if_neg (by omega), if_neg (by omega), if_neg (by omega), if_neg (by omega)] at h
  exact h
theorem bA_c {T : Int → Int} {a : Int} : (bA T a = a ∧ ¬ art7 (T a)) ∨ (bA T a = a + 1 ∧ art7 (T a)) := by
  unfold bA
  by_cases q : art7 (T a)
  · rw [if_pos q]; exact Or.inr ⟨rfl, q⟩
  · rw [if_neg q]; exact Or.inl ⟨rfl, q⟩
theorem nf_2 {T : Int → Int} {a b : Int} (h : T a ≠ 100) (e : b = a + 1) : nf7 T a = nf7 T b := by rw [e]; exact (nf_n h).symm
theorem nf_A {T : Int → Int} {a : Int} (h : T (bA T a) = 100) (hb : bA T a < 5200) : nf7 T a = bA T a := by
  rcases bA_c (T := T) (a := a) with ⟨e, _⟩ | ⟨e, q⟩
  · rw [e] at h hb ⊢; exact nf_y h hb
  · rw [nf_2 (T := T) (a := a) (b := a + 1) (by unfold art7 at q; omega) rfl, e]
    rw [e] at h hb
    exact nf_y h hb
theorem nfF_c {T : Int → Int} : ∀ (n : Nat) (a : Int), nfF T n a = -1 ∨ (a ≤ nfF T n a ∧ T (nfF T n a) = 100)
  | 0, _ => Or.inl rfl
  | n + 1, a => by
    by_cases q : T a = 100
    · have e : nfF T (n + 1) a = a := if_pos q
      rw [e]; exact Or.inr ⟨Int.le_refl a, q⟩
    · have e : nfF T (n + 1) a = nfF T n (a + 1) := if_neg q
      rw [e]
      rcases nfF_c (T := T) n (a + 1) with h | ⟨h1, h2⟩
      · exact Or.inl h
      · exact Or.inr ⟨by omega, h2⟩
theorem nf_c {T : Int → Int} (a : Int) : nf7 T a = -1 ∨ (a ≤ nf7 T a ∧ T (nf7 T a) = 100) := nfF_c _ _
/-- the k-th run of the reference is that of the class -/
theorem rnr_7 {U S : sS} {f m k : Nat} {a : Int} (hk : KRS S f m) (hT : tR S f m = ty7 U) (hr : (k : Int) < Xi S 904 69) (e : kr7 (ty7 U) k = a) (h : ty7 U a = 100) : RNR U S f (k : Int) a (re7 (ty7 U) a) := by
  obtain ⟨h0, h1, _⟩ := ty_row h
  obtain ⟨x, y⟩ := hk k hr
  rw [hT, e] at x y
  have l := (re7_c (T := ty7 U) (a := a)).1 h
  refine ⟨h0, l, ?_, ?_, ?_, fun i a1 a2 => re_in a1 a2⟩
  · have t := ty_row (re_in (T := ty7 U) (a := a) (j := re7 (ty7 U) a - 1) (by omega) (by omega)); omega
  · show Xi S 950 k = f + a; omega
  · show Xi S 951 k = _; exact y
/-- the first is, are, has, can or relates -/
theorem tk_to {T : Int → Int} {e : Int} (he : 0 ≤ e ∧ e < 5131) (h : ∀ i : Int, 0 ≤ i → i < e → ¬ (T i = 103 ∨ T i = 107) ∧ ¬ tl7 (T i)) (t : tl7 (T e)) : tk7 T = e := by
  have k : ∀ n : Nat, (n : Int) ≤ e → tk7 T = tkF T (5131 - (n : Int)).toNat n := by
    intro n
    induction n with
    | zero => exact fun _ => rfl
    | succ n ih =>
      intro hn
      rw [ih (by omega)]
      have x := h n (by omega) (by omega)
      rw [tk_s (v := (n : Int)) (by omega) (by omega) x.1 x.2]
      rw [show ((n + 1 : Nat) : Int) = (n : Int) + 1 by omega]
  have x := k e.toNat (by omega)
  rw [show ((e.toNat : Nat) : Int) = e by omega] at x
  rw [x]
  exact tk_h (by omega) t
theorem tk_N {T : Int → Int} {e : Int} (h : T (bA T 0) = 100) (he : e = re7 T (bA T 0)) (hb : e < 5131) (t : tl7 (T e)) : tk7 T = e := by
  have l := (re7_c (T := T) (a := bA T 0)).1 h
  have b := bA_c (T := T) (a := 0)
  refine tk_to ⟨by omega, hb⟩ (fun i i0 i1 => ?_) t
  by_cases q : bA T 0 ≤ i
  · have x := re_in (T := T) (a := bA T 0) (j := i) q (by omega)
    unfold tl7; omega
  · have z : i = 0 := by omega
    rcases b with ⟨e1, _⟩ | ⟨_, e1⟩
    · omega
    · rw [z]; unfold art7 at e1; unfold tl7; omega
theorem inv_1 {T : Int → Int} {x : Int} (c : chk T = (1, x)) (t0 : T 0 = 33) : T 1 = 102 ∧ T 2 = 34 ∧ T 3 = 100 ∧ T (re7 T 3) = 103 ∧ x = re7 T 3 + 1 := by
  have h := ok_1 c
  unfold chk at h
  rw [if_neg (by omega), if_pos (by omega)] at h
  obtain ⟨a3, h, x4⟩ := ok_sq h
  obtain ⟨a2, h, x3⟩ := ok_sq h
  obtain ⟨a1, h, x2⟩ := ok_sq h
  obtain ⟨t1, u1⟩ := ok_T h
  have v1 : a1 = 2 := by omega
  subst v1
  obtain ⟨t2, u2⟩ := ok_T x2
  have v2 : a2 = 3 := by omega
  subst v2
  obtain ⟨t3, u3⟩ := ok_R x3
  have v3 : a3 = re7 T 3 := by omega
  subst v3
  obtain ⟨t4, u4⟩ := ok_T x4
  exact ⟨t1, t2, t3, t4, by omega⟩
theorem inv_7 {T : Int → Int} {x : Int} (c : chk T = (1, x)) (t0 : T 0 = 2) (t1 : T 1 = 25) : T 2 = 11 ∧ T 3 = 100 ∧ T (re7 T 3) = 24 ∧ T (re7 T 3 + 1) = 2 ∧ T (re7 T 3 + 2) = 100 ∧ T (re7 T (re7 T 3 + 2)) = 26 ∧ T (re7 T (re7 T 3 + 2) + 1) = 103 ∧ x = re7 T (re7 T 3 + 2) + 2 := by
  have h := ok_1 c
  have h := ok_o h (by omega)
  unfold ckO at h
  rw [if_pos (by omega)] at h
  obtain ⟨a6, h, x7⟩ := ok_sq h
  obtain ⟨a5, h, x6⟩ := ok_sq h
  obtain ⟨a4, h, x5⟩ := ok_sq h
  obtain ⟨a3, h, x4⟩ := ok_sq h
  obtain ⟨a2, h, x3⟩ := ok_sq h
  obtain ⟨a1, h, x2⟩ := ok_sq h
  obtain ⟨t1, u1⟩ := ok_T h
  have v1 : a1 = 3 := by omega
  subst v1
  obtain ⟨t2, u2⟩ := ok_R x2
  have v2 : a2 = re7 T 3 := by omega
  subst v2
  obtain ⟨t3, u3⟩ := ok_T x3
  have v3 : a3 = re7 T 3 + 1 := by omega
  subst v3
  obtain ⟨t4, u4⟩ := ok_T x4
  have v4 : a4 = re7 T 3 + 2 := by omega
  subst v4
  obtain ⟨t5, u5⟩ := ok_R x5
  have v5 : a5 = re7 T (re7 T 3 + 2) := by omega
  subst v5
  obtain ⟨t6, u6⟩ := ok_T x6
  have v6 : a6 = re7 T (re7 T 3 + 2) + 1 := by omega
  subst v6
  obtain ⟨t7, u7⟩ := ok_T x7
  exact ⟨t1, t2, t3, t4, t5, t6, t7, by omega⟩
theorem inv_8 {T : Int → Int} {x : Int} (c : chk T = (1, x)) (t0 : T 0 = 2) (t1 : T 1 = 19) : T 2 = 7 ∧ T (bA T 3) = 100 ∧ (T (re7 T (bA T 3)) = 4 ∨ T (re7 T (bA T 3)) = 5) ∧ T (re7 T (bA T 3) + 1) = 100 ∧ T (re7 T (re7 T (bA T 3) + 1)) = 103 ∧ x = re7 T (re7 T (bA T 3) + 1) + 1 := by
  have h := ok_1 c
  have h := ok_o h (by omega)
  unfold ckO at h
  rw [if_neg (by omega), if_pos (by omega)] at h
  obtain ⟨a4, h, x5⟩ := ok_sq h
  obtain ⟨a3, h, x4⟩ := ok_sq h
  obtain ⟨a2, h, x3⟩ := ok_sq h
  obtain ⟨a1, h, x2⟩ := ok_sq h
  obtain ⟨t1, u1⟩ := ok_T h
  have v1 : a1 = 3 := by omega
  subst v1
  obtain ⟨t2, u2⟩ := ok_N x2
  have v2 : a2 = re7 T (bA T 3) := by omega
  subst v2
  obtain ⟨t3, u3⟩ := ok_Be x3
  have v3 : a3 = re7 T (bA T 3) + 1 := by omega
  subst v3
  obtain ⟨t4, u4⟩ := ok_R x4
  have v4 : a4 = re7 T (re7 T (bA T 3) + 1) := by omega
  subst v4
  obtain ⟨t5, u5⟩ := ok_T x5
  exact ⟨t1, t2, t3, t4, t5, by omega⟩
theorem inv_17 {T : Int → Int} {x : Int} (c : chk T = (1, x)) (n0 : T 0 ≠ 102 ∧ T 0 ≠ 33 ∧ T 0 ≠ 35 ∧ T 0 ≠ 38 ∧ T 0 ≠ 40 ∧ T 0 ≠ 39 ∧ T 0 ≠ 41) (n7 : ¬ (T 0 = 2 ∧ T 1 = 25)) (n8 : ¬ (T 0 = 2 ∧ T 1 = 19)) (k : kt7 T = 12) : T (bA T 0) = 100 ∧ T (re7 T (bA T 0)) = 12 ∧ art7 (T (re7 T (bA T 0) + 1)) ∧ T (re7 T (bA T 0) + 2) = 100 ∧ T (re7 T (re7 T (bA T 0) + 2)) = 17 ∧ T (re7 T (re7 T (bA T 0) + 2) + 1) = 100 ∧ T (re7 T (re7 T (re7 T (bA T 0) + 2) + 1)) = 103 ∧ x = re7 T (re7 T (re7 T (bA T 0) + 2) + 1) + 1 := by
  have h := ok_1 c
  have h := ok_o h (by omega)
  unfold ckO at h
  rw [if_neg (by omega), if_neg (by omega), if_neg (by omega), if_pos (by omega)] at h
  obtain ⟨a6, h, x7⟩ := ok_sq h
  obtain ⟨a5, h, x6⟩ := ok_sq h
  obtain ⟨a4, h, x5⟩ := ok_sq h
  obtain ⟨a3, h, x4⟩ := ok_sq h
  obtain ⟨a2, h, x3⟩ := ok_sq h
  obtain ⟨a1, h, x2⟩ := ok_sq h
  obtain ⟨t1, u1⟩ := ok_N h
  have v1 : a1 = re7 T (bA T 0) := by omega
  subst v1
  obtain ⟨t2, u2⟩ := ok_T x2
  have v2 : a2 = re7 T (bA T 0) + 1 := by omega
  subst v2
  obtain ⟨t3, u3⟩ := ok_A x3
  have v3 : a3 = re7 T (bA T 0) + 2 := by omega
  subst v3
  obtain ⟨t4, u4⟩ := ok_R x4
  have v4 : a4 = re7 T (re7 T (bA T 0) + 2) := by omega
  subst v4
  obtain ⟨t5, u5⟩ := ok_T x5
  have v5 : a5 = re7 T (re7 T (bA T 0) + 2) + 1 := by omega
  subst v5
  obtain ⟨t6, u6⟩ := ok_R x6
  have v6 : a6 = re7 T (re7 T (re7 T (bA T 0) + 2) + 1) := by omega
  subst v6
  obtain ⟨t7, u7⟩ := ok_T x7
  exact ⟨t1, t2, t3, t4, t5, t6, t7, by omega⟩
theorem inv_18 {T : Int → Int} {x : Int} (c : chk T = (1, x)) (n0 : T 0 ≠ 102 ∧ T 0 ≠ 33 ∧ T 0 ≠ 35 ∧ T 0 ≠ 38 ∧ T 0 ≠ 40 ∧ T 0 ≠ 39 ∧ T 0 ≠ 41) (n7 : ¬ (T 0 = 2 ∧ T 1 = 25)) (n8 : ¬ (T 0 = 2 ∧ T 1 = 19)) (k : kt7 T = 13) : T (bA T 0) = 100 ∧ T (re7 T (bA T 0)) = 13 ∧ T (re7 T (bA T 0) + 1) = 14 ∧ T (re7 T (bA T 0) + 2) = 100 ∧ T (re7 T (re7 T (bA T 0) + 2)) = 15 ∧ T (re7 T (re7 T (bA T 0) + 2) + 1) = 100 ∧ T (re7 T (re7 T (re7 T (bA T 0) + 2) + 1)) = 103 ∧ x = re7 T (re7 T (re7 T (bA T 0) + 2) + 1) + 1 := by
  have h := ok_1 c
  have h := ok_o h (by omega)
  unfold ckO at h
  rw [if_neg (by omega), if_neg (by omega), if_neg (by omega), if_neg (by omega), if_pos (by omega)] at h
  obtain ⟨a6, h, x7⟩ := ok_sq h
  obtain ⟨a5, h, x6⟩ := ok_sq h
  obtain ⟨a4, h, x5⟩ := ok_sq h
  obtain ⟨a3, h, x4⟩ := ok_sq h
  obtain ⟨a2, h, x3⟩ := ok_sq h
  obtain ⟨a1, h, x2⟩ := ok_sq h
  obtain ⟨t1, u1⟩ := ok_N h
  have v1 : a1 = re7 T (bA T 0) := by omega
  subst v1
  obtain ⟨t2, u2⟩ := ok_T x2
  have v2 : a2 = re7 T (bA T 0) + 1 := by omega
  subst v2
  obtain ⟨t3, u3⟩ := ok_T x3
  have v3 : a3 = re7 T (bA T 0) + 2 := by omega
  subst v3
  obtain ⟨t4, u4⟩ := ok_R x4
  have v4 : a4 = re7 T (re7 T (bA T 0) + 2) := by omega
  subst v4
  obtain ⟨t5, u5⟩ := ok_T x5
  have v5 : a5 = re7 T (re7 T (bA T 0) + 2) + 1 := by omega
  subst v5
  obtain ⟨t6, u6⟩ := ok_R x6
  have v6 : a6 = re7 T (re7 T (re7 T (bA T 0) + 2) + 1) := by omega
  subst v6
  obtain ⟨t7, u7⟩ := ok_T x7
  exact ⟨t1, t2, t3, t4, t5, t6, t7, by omega⟩
theorem inv_19 {T : Int → Int} {x : Int} (c : chk T = (1, x)) (n0 : T 0 ≠ 102 ∧ T 0 ≠ 33 ∧ T 0 ≠ 35 ∧ T 0 ≠ 38 ∧ T 0 ≠ 40 ∧ T 0 ≠ 39 ∧ T 0 ≠ 41) (n7 : ¬ (T 0 = 2 ∧ T 1 = 25)) (n8 : ¬ (T 0 = 2 ∧ T 1 = 19)) (k : kt7 T = 21) : T (bA T 0) = 100 ∧ T (re7 T (bA T 0)) = 21 ∧ (T (re7 T (bA T 0) + 1) = 22 ∨ T (re7 T (bA T 0) + 1) = 23) ∧ T (re7 T (bA T 0) + 2) = 100 ∧ T (re7 T (re7 T (bA T 0) + 2)) = 11 ∧ (T (re7 T (re7 T (bA T 0) + 2) + 1) = 22 ∨ T (re7 T (re7 T (bA T 0) + 2) + 1) = 23) ∧ T (re7 T (re7 T (bA T 0) + 2) + 2) = 100 ∧ T (re7 T (re7 T (re7 T (bA T 0) + 2) + 2)) = 103 ∧ x = re7 T (re7 T (re7 T (bA T 0) + 2) + 2) + 1 := by
  have h := ok_1 c
  have h := ok_o h (by omega)
  unfold ckO at h
  rw [if_neg (by omega), if_neg (by omega), if_neg (by omega), if_neg (by omega), if_neg (by omega), if_pos (by omega)] at h
  obtain ⟨a7, h, x8⟩ := ok_sq h
  obtain ⟨a6, h, x7⟩ := ok_sq h
  obtain ⟨a5, h, x6⟩ := ok_sq h
  obtain ⟨a4, h, x5⟩ := ok_sq h
  obtain ⟨a3, h, x4⟩ := ok_sq h
  obtain ⟨a2, h, x3⟩ := ok_sq h
  obtain ⟨a1, h, x2⟩ := ok_sq h
  obtain ⟨t1, u1⟩ := ok_N h
  have v1 : a1 = re7 T (bA T 0) := by omega
  subst v1
  obtain ⟨t2, u2⟩ := ok_T x2
  have v2 : a2 = re7 T (bA T 0) + 1 := by omega
  subst v2
  obtain ⟨t3, u3⟩ := ok_How x3
  have v3 : a3 = re7 T (bA T 0) + 2 := by omega
  subst v3
  obtain ⟨t4, u4⟩ := ok_R x4
  have v4 : a4 = re7 T (re7 T (bA T 0) + 2) := by omega
  subst v4
  obtain ⟨t5, u5⟩ := ok_T x5
  have v5 : a5 = re7 T (re7 T (bA T 0) + 2) + 1 := by omega
  subst v5
  obtain ⟨t6, u6⟩ := ok_How x6
  have v6 : a6 = re7 T (re7 T (bA T 0) + 2) + 2 := by omega
  subst v6
  obtain ⟨t7, u7⟩ := ok_R x7
  have v7 : a7 = re7 T (re7 T (re7 T (bA T 0) + 2) + 2) := by omega
  subst v7
  obtain ⟨t8, u8⟩ := ok_T x8
  exact ⟨t1, t2, t3, t4, t5, t6, t7, t8, by omega⟩
/-- a sentence that both have read -/
def RD7S (U S : sS) (f m : Nat) : Prop := tR S f m = ty7 U ∧ Xi U 876 7 ≤ 5001 ∧ KRS S f m
theorem lt_ty {U : sS} {i : Int} (h7 : Xi U 876 7 ≤ 5001) (h : ty7 U i = 100) : 0 ≤ i ∧ i < 5130 := by
  obtain ⟨h0, h1, _⟩ := ty_row h; omega
theorem ty_in {U : sS} {i : Int} (h : ty7 U i ≠ 107) : 0 ≤ i ∧ i < Xi U 876 7 := by
  refine Classical.byContradiction (fun q => h (ty7_o (by omega)))
theorem po_1 {U S : sS} {f m : Nat} {x : Int} (r : RD7S U S f m) (c : chk (ty7 U) = (1, x)) (t0 : ty7 U 0 = 33) (n : 1 ≤ Xi S 904 69) : RNR U S f 0 3 (re7 (ty7 U) 3) ∧ ty7 U 1 = 102 ∧ 3 < Xi U 876 7 := by
  obtain ⟨q1, q2, q3, q4, _⟩ := inv_1 c t0
  obtain ⟨hT, h7, ks⟩ := r
  have e0 : kr7 (ty7 U) 0 = 3 := by
    show nf7 (ty7 U) 0 = 3
    rw [nf_2 (b := 1) (by omega) (by omega), nf_2 (b := 2) (by omega) (by omega), nf_2 (b := 3) (by omega) (by omega)]
    exact nf_y q3 (by omega)
  exact ⟨rnr_7 (k := 0) ks hT (by omega) e0 q3, q1, (ty_in (by omega : ty7 U 3 ≠ 107)).2⟩
theorem po_7 {U S : sS} {f m : Nat} {x : Int} (r : RD7S U S f m) (c : chk (ty7 U) = (1, x)) (t0 : ty7 U 0 = 2) (t1 : ty7 U 1 = 25) (n : 2 ≤ Xi S 904 69) : RNR U S f 0 3 (re7 (ty7 U) 3) ∧ RNR U S f 1 (re7 (ty7 U) 3 + 2) (re7 (ty7 U) (re7 (ty7 U) 3 + 2)) ∧ re7 (ty7 U) 3 + 2 < Xi U 876 7 := by
  obtain ⟨q1, q2, q3, q4, q5, _⟩ := inv_7 c t0 t1
  obtain ⟨hT, h7, ks⟩ := r
  have e0 : kr7 (ty7 U) 0 = 3 := by
    show nf7 (ty7 U) 0 = 3
    rw [nf_2 (b := 1) (by omega) (by omega), nf_2 (b := 2) (by omega) (by omega), nf_2 (b := 3) (by omega) (by omega)]
    exact nf_y q2 (by omega)
  have e1 : kr7 (ty7 U) 1 = re7 (ty7 U) 3 + 2 := by
    show nf7 (ty7 U) (re7 (ty7 U) (kr7 (ty7 U) 0)) = _
    rw [e0, nf_2 (b := re7 (ty7 U) 3 + 1) (by omega) (by omega), nf_2 (b := re7 (ty7 U) 3 + 2) (by omega) (by omega)]
    exact nf_y q5 (by have := lt_ty h7 q5; omega)
  exact ⟨rnr_7 (k := 0) ks hT (by omega) e0 q2, rnr_7 (k := 1) ks hT (by omega) e1 q5, (ty_in (by omega : ty7 U (re7 (ty7 U) 3 + 2) ≠ 107)).2⟩
theorem po_8 {U S : sS} {f m : Nat} {x : Int} (r : RD7S U S f m) (c : chk (ty7 U) = (1, x)) (t0 : ty7 U 0 = 2) (t1 : ty7 U 1 = 19) (n : 2 ≤ Xi S 904 69) : RNR U S f 0 (bA (ty7 U) 3) (re7 (ty7 U) (bA (ty7 U) 3)) ∧ RNR U S f 1 (re7 (ty7 U) (bA (ty7 U) 3) + 1) (re7 (ty7 U) (re7 (ty7 U) (bA (ty7 U) 3) + 1)) ∧ re7 (ty7 U) (bA (ty7 U) 3) + 1 < Xi U 876 7 := by
  obtain ⟨q1, q2, q3, q4, _⟩ := inv_8 c t0 t1
  obtain ⟨hT, h7, ks⟩ := r
  have e0 : kr7 (ty7 U) 0 = bA (ty7 U) 3 := by
    show nf7 (ty7 U) 0 = _
    rw [nf_2 (b := 1) (by omega) (by omega), nf_2 (b := 2) (by omega) (by omega), nf_2 (b := 3) (by omega) (by omega)]
    exact nf_A q2 (by have := lt_ty h7 q2; omega)
  have e1 : kr7 (ty7 U) 1 = re7 (ty7 U) (bA (ty7 U) 3) + 1 := by
    show nf7 (ty7 U) (re7 (ty7 U) (kr7 (ty7 U) 0)) = _
    rw [e0, nf_2 (b := re7 (ty7 U) (bA (ty7 U) 3) + 1) (by omega) (by omega)]
    exact nf_y q4 (by have := lt_ty h7 q4; omega)
  exact ⟨rnr_7 (k := 0) ks hT (by omega) e0 q2, rnr_7 (k := 1) ks hT (by omega) e1 q4, (ty_in (by omega : ty7 U (re7 (ty7 U) (bA (ty7 U) 3) + 1) ≠ 107)).2⟩
/-- 17, 18, 19: three runs, the first at a NAME, the second two tokens behind the teller -/
theorem po_3 {U S : sS} {f m : Nat} {d : Int} (r : RD7S U S f m) (n : 3 ≤ Xi S 904 69) (q1 : ty7 U (bA (ty7 U) 0) = 100) (q2 : tl7 (ty7 U (re7 (ty7 U) (bA (ty7 U) 0)))) (q3 : ty7 U (re7 (ty7 U) (bA (ty7 U) 0) + 1) ≠ 100) (q4 : ty7 U (re7 (ty7 U) (bA (ty7 U) 0) + 2) = 100) (q5 : ∀ i : Int, re7 (ty7 U) (re7 (ty7 U) (bA (ty7 U) 0) + 2) ≤ i → i < d → ty7 U i ≠ 100) (hd : re7 (ty7 U) (re7 (ty7 U) (bA (ty7 U) 0) + 2) ≤ d) (hd2 : d ≤ re7 (ty7 U) (re7 (ty7 U) (bA (ty7 U) 0) + 2) + 2) (q6 : ty7 U d = 100) : tk7 (ty7 U) = re7 (ty7 U) (bA (ty7 U) 0) ∧ RNR U S f 0 (bA (ty7 U) 0) (re7 (ty7 U) (bA (ty7 U) 0)) ∧ RNR U S f 1 (re7 (ty7 U) (bA (ty7 U) 0) + 2) (re7 (ty7 U) (re7 (ty7 U) (bA (ty7 U) 0) + 2)) ∧ RNR U S f 2 d (re7 (ty7 U) d) := by
  obtain ⟨hT, h7, ks⟩ := r
  have l6 := lt_ty h7 q6
  have l4 := lt_ty h7 q4
  have g4 := (re7_c (T := ty7 U) (a := re7 (ty7 U) (bA (ty7 U) 0) + 2)).1 q4
  have e0 : kr7 (ty7 U) 0 = bA (ty7 U) 0 := nf_A q1 (by have := lt_ty h7 q1; omega)
  have e1 : kr7 (ty7 U) 1 = re7 (ty7 U) (bA (ty7 U) 0) + 2 := by
    show nf7 (ty7 U) (re7 (ty7 U) (kr7 (ty7 U) 0)) = _
    rw [e0, nf_2 (b := re7 (ty7 U) (bA (ty7 U) 0) + 1) (by unfold tl7 at q2; omega) (by omega), nf_2 (b := re7 (ty7 U) (bA (ty7 U) 0) + 2) q3 (by omega)]
    exact nf_y q4 (by omega)
  have e2 : kr7 (ty7 U) 2 = d := by
    show nf7 (ty7 U) (re7 (ty7 U) (kr7 (ty7 U) 1)) = _
    rw [e1]
    rcases (by omega : d = re7 (ty7 U) (re7 (ty7 U) (bA (ty7 U) 0) + 2) ∨ d = re7 (ty7 U) (re7 (ty7 U) (bA (ty7 U) 0) + 2) + 1 ∨ d = re7 (ty7 U) (re7 (ty7 U) (bA (ty7 U) 0) + 2) + 2) with e | e | e
    · rw [← e]; exact nf_y q6 (by omega)
    · rw [nf_2 (b := d) (q5 _ (by omega) (by omega)) e]; exact nf_y q6 (by omega)
    · rw [nf_2 (b := d - 1) (q5 _ (by omega) (by omega)) (by omega), nf_2 (b := d) (q5 _ (by omega) (by omega)) (by omega)]; exact nf_y q6 (by omega)
  exact ⟨tk_N q1 rfl (by omega) q2, rnr_7 (k := 0) ks hT (by omega) e0 q1, rnr_7 (k := 1) ks hT (by omega) e1 q4, rnr_7 (k := 2) ks hT (by omega) e2 q6⟩

/-! where a sentence's parts lie: with is or are -/
abbrev fr7 (t : Int) : Prop := t = 100 ∨ art7 t ∨ t = 104 ∨ t = 16
theorem ok_u {x : Int × Int} {a b : Int} (h : gOK x a) (k : gOK x b) : a = b := h.2.symm.trans k.2
theorem ok_Bt {T : Int → Int} {a b : Int} (h : gOK (gBt T a) b) : a < b ∧ ∀ i, a ≤ i → i < b → T i = 104 ∨ T i = 16 := by
  unfold gBt at h
  by_cases q : (gT T 104 a).1 = 0
  · rw [if_pos q, (ok_Tn q).2] at h
    obtain ⟨t, e⟩ := ok_T h
    exact ⟨by omega, fun i i0 i1 => by rw [show i = a by omega]; exact Or.inr t⟩
  · rw [if_neg q, (ok_Ty q).2] at h
    have t0 := (ok_Ty q).1
    have e : (gT T 16 (a + 1)).2 = b := h.2
    by_cases w : (gT T 16 (a + 1)).1 = 0
    · have e2 := (ok_Tn w).2
      exact ⟨by omega, fun i i0 i1 => by rw [show i = a by omega]; exact Or.inl t0⟩
    · obtain ⟨t1, e2⟩ := ok_Ty w
      refine ⟨by omega, fun i i0 i1 => ?_⟩
      rcases (by omega : i = a ∨ i = a + 1) with z | z
      · rw [z]; exact Or.inl t0
      · rw [z]; exact Or.inr t1
theorem bt_n {T : Int → Int} {a : Int} (h : (gBt T a).1 = 0) : (gBt T a).2 = a := by
  unfold gBt at h ⊢
  by_cases q : (gT T 104 a).1 = 0
  · rw [if_pos q, (ok_Tn q).2] at h ⊢
    exact (ok_Tn h).2
  · rw [if_neg q] at h; exact absurd h one0
theorem na_in {T : Int → Int} {c : Int} (h : T (bA T c) = 100) : c < re7 T (bA T c) ∧ ∀ i, c ≤ i → i < re7 T (bA T c) → T i = 100 ∨ art7 (T i) := by
  have l := (re7_c (T := T) (a := bA T c)).1 h
  have b := bA_c (T := T) (a := c)
  refine ⟨by omega, fun i i0 i1 => ?_⟩
  by_cases q : bA T c ≤ i
  · exact Or.inl (re_in q i1)
  · rcases b with ⟨e, _⟩ | ⟨_, e⟩
    · omega
    · rw [show i = c by omega]; exact Or.inr e
theorem ok_Ln {T : Int → Int} : ∀ (n : Nat) (a b : Int), gOK (gLn T n a) b → a ≤ b ∧ ∀ i, a ≤ i → i < b → fr7 (T i)
  | 0, a, b, h => by
    have e : a = b := h.2
    exact ⟨by omega, fun i _ _ => by omega⟩
  | n + 1, a, b, h => by
    unfold gLn at h
    by_cases q : (gBt T a).1 = 0
    · rw [if_pos q] at h
      have e : (gBt T a).2 = b := h.2
      have e2 := bt_n q
      exact ⟨by omega, fun i _ _ => by omega⟩
    · rw [if_neg q] at h
      obtain ⟨l1, k1⟩ := ok_Bt ⟨q, rfl⟩
      by_cases r : (gN T (gBt T a).2).1 = 0
      · rw [if_pos r] at h; exact absurd rfl h.1
      · rw [if_neg r] at h
        obtain ⟨t, e⟩ := ok_N ⟨r, rfl⟩
        obtain ⟨l2, k2⟩ := na_in t
        rw [← e] at l2 k2
        obtain ⟨l3, k3⟩ := ok_Ln n _ _ h
        refine ⟨by omega, fun i i0 i1 => ?_⟩
        by_cases w1 : i < (gBt T a).2
        · rcases k1 i i0 w1 with z | z
          · exact Or.inr (Or.inr (Or.inl z))
          · exact Or.inr (Or.inr (Or.inr z))
        · by_cases w2 : i < (gN T (gBt T a).2).2
          · rcases k2 i (by omega) w2 with z | z
            · exact Or.inl z
            · exact Or.inr (Or.inl z)
          · exact k3 i (by omega) i1
theorem ok_Ls {T : Int → Int} {e : Int} (h : gOK (gLs T 0) e) : T (bA T 0) = 100 ∧ 0 < e ∧ ∀ i, 0 ≤ i → i < e → fr7 (T i) := by
  unfold gLs at h
  by_cases r : (gN T 0).1 = 0
  · rw [if_pos r] at h; exact absurd rfl h.1
  · rw [if_neg r] at h
    obtain ⟨t, e1⟩ := ok_N ⟨r, rfl⟩
    obtain ⟨l2, k2⟩ := na_in t
    rw [← e1] at l2 k2
    obtain ⟨l3, k3⟩ := ok_Ln _ _ _ h
    refine ⟨t, by omega, fun i i0 i1 => ?_⟩
    by_cases w2 : i < (gN T 0).2
    · rcases k2 i (by omega) w2 with z | z
      · exact Or.inl z
      · exact Or.inr (Or.inl z)
    · exact k3 i (by omega) i1
/-- what stands behind is or are -/
def ckT (T : Int → Int) (a : Int) : Int × Int :=
  if T a = 0 ∧ T (a + 1) = 18 then gSq (if (gT T 7 (a + 2)).1 = 0 then (1, (gT T 7 (a + 2)).2) else gOr (gT T 20 (gT T 7 (a + 2)).2) (gN T)) (gT T 103)
  else if T a = 1 ∧ T (a + 1) = 27 then gSq (if (gT T 28 (a + 2)).1 = 0 then (1, (gT T 28 (a + 2)).2) else gSq (gSq (gT T 11 (gT T 28 (a + 2)).2) (gT T 22)) (gR T)) (gT T 103)
  else if art7 (T a) then gSq (gSq (gR T (a + 1)) (fun b => if pl7 (T b) then gPl T 0 b else (1, b))) (gT T 103)
  else if pl7 (T a) then gSq (gPl T 0 a) (gT T 103)
  else ckR T (gOr (gT T 6 a) (gT T 32)).1 (gOr (gT T 6 a) (gT T 32)).2
theorem ckB_e {T : Int → Int} (h : ¬ bp7 T 0) : ckB T = gSq (gSq (gLs T 0) (gBe T)) (ckT T) := by
  unfold ckB
  rw [if_neg h]
  rfl
theorem inv_B {T : Int → Int} {x : Int} (c : chk T = (1, x)) (n0 : T 0 ≠ 102 ∧ T 0 ≠ 33 ∧ T 0 ≠ 35 ∧ T 0 ≠ 38 ∧ T 0 ≠ 40 ∧ T 0 ≠ 39 ∧ T 0 ≠ 41) (n7 : ¬ (T 0 = 2 ∧ T 1 = 25)) (n8 : ¬ (T 0 = 2 ∧ T 1 = 19)) (k : kt7 T = 4 ∨ kt7 T = 5) (nb : ¬ bp7 T 0) : ∃ e, gOK (gLs T 0) e ∧ (T e = 4 ∨ T e = 5) ∧ gOK (ckT T (e + 1)) x := by
  have h := ok_o (ok_1 c) n0
  unfold ckO at h
  rw [if_neg n7, if_neg n8, if_pos k, ckB_e nb] at h
  obtain ⟨a, h, y⟩ := ok_sq h
  obtain ⟨e, h, z⟩ := ok_sq h
  obtain ⟨t, u⟩ := ok_Be z
  rw [u] at y
  exact ⟨e, h, t, y⟩
theorem kr_ahead {T : Int → Int} {b e : Int} (nf : NF7 T b) (hb : b ≤ 5130) (h0 : 0 ≤ e) (h1 : e ≤ 5140) (te : T e ≠ 100) : kr7 T (cR T e.toNat) = nf7 T e := by
  obtain ⟨c1, c2⟩ := cR_c nf hb e.toNat (by omega)
  rw [show ((e.toNat : Nat) : Int) = e by omega] at c1 c2
  by_cases q : e.toNat = 0 ∨ T (e - 1) ≠ 100
  · exact c1 q
  · obtain ⟨k, k1, _, k3⟩ := c2 (by omega) (Classical.byContradiction (fun w => q (Or.inr w)))
    rw [k1]
    show nf7 T (re7 T (kr7 T k)) = _
    rw [k3, re7_c.2 te]
theorem kr_lt {T : Int → Int} {L : Nat} (hl : ∀ k : Nat, k < L → T (kr7 T k) = 100) (h1 : T (-1) ≠ 100) (hL : kr7 T L ≠ -1) : ∀ j i : Nat, i < j → j ≤ L → kr7 T i < kr7 T j
  | 0, i, h, _ => absurd h (Nat.not_lt_zero i)
  | j + 1, i, h, hj => by
    have ti := hl j (by omega)
    have l := (re7_c (T := T) (a := kr7 T j)).1 ti
    have nz : kr7 T (j + 1) ≠ -1 := by
      by_cases q : j + 1 = L
      · rw [q]; exact hL
      · exact fun w => h1 (by rw [← w]; exact hl (j + 1) (by omega))
    have s : kr7 T j < kr7 T (j + 1) := by
      rcases nf_c (T := T) (re7 T (kr7 T j)) with e | ⟨e, _⟩
      · exact absurd e nz
      · have u : kr7 T (j + 1) = nf7 T (re7 T (kr7 T j)) := rfl
        omega
    by_cases q : i = j
    · rw [q]; exact s
    · have t := kr_lt hl h1 hL j i (by omega) (by omega)
      omega
/-- how many runs stand ahead of e -/
theorem ls_n {T : Int → Int} {L : Nat} {e b : Int} (nf : NF7 T b) (hb : b ≤ 5130) (h0 : 0 ≤ e) (he : e ≤ 5130) (te : T e ≠ 100) (hk : kr7 T L = nf7 T e) (hl : ∀ k : Nat, k < L → T (kr7 T k) = 100) (h1 : T (-1) ≠ 100) : cR T e.toNat = L := by
  have kn := kr_ahead nf hb h0 (by omega) te
  have ki := kr_in nf hb e.toNat (by omega)
  rcases Nat.lt_trichotomy (cR T e.toNat) L with q | q | q
  · exfalso
    by_cases z : nf7 T e = -1
    · exact h1 (by rw [← z, ← kn]; exact hl _ q)
    · have t := kr_lt hl h1 (by rw [hk]; exact z) L _ q (Nat.le_refl _)
      omega
  · exact q
  · exfalso
    have t := ki L q
    rcases nf_c (T := T) e with z | ⟨z, _⟩
    · omega
    · omega
theorem nf_ty {U : sS} : NF7 (ty7 U) (Xi U 876 7) := fun i hi => by rw [ty7_o (Or.inr hi)]; decide
/-- the runs that are kept, by their number -/
theorem rnv_100 {U S : sS} {f m n : Nat} (r : RD7S U S f m) (rv : RNV S n) (k : Nat) (hk : (k : Int) < Xi S 904 69) : ty7 U (kr7 (ty7 U) k) = 100 := by
  obtain ⟨x, y⟩ := r.2.2 k hk
  rw [r.1] at x y
  have z := (rv k hk).2
  refine Classical.byContradiction (fun q => ?_)
  have w := (re7_c (T := ty7 U) (a := kr7 (ty7 U) k)).2 q
  omega
/-- what both know of a sentence with is or are that begins no property -/
def BEX (U S : sS) (f m : Nat) (x : Int) : Prop := RD7S U S f m ∧ ((ty7 U (Xi U 890 3) = 4 ∨ ty7 U (Xi U 890 3) = 5) ∧ 0 < Xi U 890 3 ∧ Xi U 890 3 < 5001) ∧ gOK (ckT (ty7 U) (Xi U 890 3 + 1)) x ∧ ty7 U (bA (ty7 U) 0) = 100 ∧ (LRN U S f (Xi S 904 71) (nL U) ∧ (Xi S 904 72).toNat = nL U ∧ 1 ≤ nL U ∧ 1 ≤ Xi S 904 72) ∧ Xi S 904 71 = 0 ∧ RSR S (ty7 U) (Xi U 890 3 + 1) (Xi S 904 72) ∧ (Xi S 904 77 = 1 ↔ ty7 U (Xi U 890 3) = 5) ∧ ((Xi S 904 70 = 15 ∨ Xi S 904 70 = 16) → ty7 U (Xi U 890 3 + 1) = 100 → Xi S 904 75 = 0 ∧ Xi S 904 76 = 0) ∧ kr7 (ty7 U) (nL U) = nf7 (ty7 U) (Xi U 890 3) ∧ Xi U 890 2 = bes (ty7 U) (Xi U 890 3 + 1)
theorem bex_i {U S : sS} {f m n : Nat} {x : Int} (r : RD7S U S f m) (c : chk (ty7 U) = (1, x)) (n0 : ty7 U 0 ≠ 102 ∧ ty7 U 0 ≠ 33 ∧ ty7 U 0 ≠ 35 ∧ ty7 U 0 ≠ 38 ∧ ty7 U 0 ≠ 40 ∧ ty7 U 0 ≠ 39 ∧ ty7 U 0 ≠ 41) (n7 : ¬ (ty7 U 0 = 2 ∧ ty7 U 1 = 25)) (n8 : ¬ (ty7 U 0 = 2 ∧ ty7 U 1 = 19)) (k : kt7 (ty7 U) = 4 ∨ kt7 (ty7 U) = 5) (nb : ¬ bp7 (ty7 U) 0) (tel : Xi U 890 3 = tk7 (ty7 U)) (be : BES U (ty7 U)) (cr : CRS S (ty7 U)) (rv : RNV S n) (l0 : 1 ≤ Xi S 904 72) (l1 : Xi S 904 71 + Xi S 904 72 ≤ Xi S 904 69) : BEX U S f m x := by
  obtain ⟨e, h, t, y⟩ := inv_B c n0 n7 n8 k nb
  obtain ⟨q1, q2, q3⟩ := ok_Ls h
  have h7 := r.2.1
  have te := ty_in (U := U) (i := e) (by omega)
  have tk : tk7 (ty7 U) = e := tk_to ⟨by omega, by omega⟩ (fun i i0 i1 => by have z := q3 i i0 i1; unfold fr7 art7 at z; unfold tl7; omega) (by unfold tl7; omega)
  obtain ⟨c1, a, c2, c3, c4, c5, c6⟩ := cr
  have g : gLs2 (ty7 U) 5200 0 = gLs (ty7 U) 0 := gLs_e (N := Xi U 876 7 - 1) (fun i hi => ty7_o (by omega)) (by omega)
  rw [g] at c2
  have ea : a = e + 1 := by
    obtain ⟨e', h', z⟩ := ok_sq (ok_1 c2)
    have u := ok_u h h'
    have v := (ok_Be z).2
    omega
  rw [ea, show e + 1 - 1 = e by omega] at c6 c4
  rw [ea] at c3 c5
  have nl : nL U = (Xi S 904 72).toNat := by
    show cR (ty7 U) (Xi U 890 3).toNat = _
    rw [tel, tk]
    exact ls_n nf_ty (by omega) (by omega) (by omega) (by omega) c6 (fun j hj => rnv_100 r rv j (by omega)) (by rw [ty7_o (Or.inl (by decide))]; decide)
  obtain ⟨a', b1, b2⟩ := be.2 nb
  have ea' : a' = e + 1 := by
    obtain ⟨e', h', z⟩ := ok_sq (ok_1 b1)
    have u := ok_u h h'
    have v := (ok_Be z).2
    omega
  rw [ea'] at b2
  refine ⟨r, ⟨by rw [tel, tk]; exact t, by omega, by omega⟩, by rw [tel, tk]; exact y, q1, ⟨fun i hi => ?_, nl.symm, by omega, l0⟩, c1, by rw [tel, tk]; exact c3, by rw [tel, tk]; exact c4, by rw [tel, tk]; exact c5, by rw [nl, tel, tk]; exact c6, by rw [tel, tk]; exact b2⟩
  rw [c1, Int.zero_add]
  exact rnr_7 r.2.2 r.1 (by omega) rfl (rnv_100 r rv i (by omega))

/-! where a sentence's parts lie: sorts 9 to 16 -/
theorem rn_L {U S : sS} {f m : Nat} {x p : Int} (b : BEX U S f m x) (hr : Xi S 904 72 < Xi S 904 69) (e : nf7 (ty7 U) (Xi U 890 3) = p) (h : ty7 U p = 100) : RNR U S f (Xi S 904 72) p (re7 (ty7 U) p) := by
  obtain ⟨r, _, _, _, ⟨_, n, _, n1⟩, _, _, _, _, k, _⟩ := b
  rw [show Xi S 904 72 = ((nL U : Nat) : Int) by omega]
  exact rnr_7 r.2.2 r.1 (by omega) (k.trans e) h
theorem rn_L1 {U S : sS} {f m : Nat} {x p p2 : Int} (b : BEX U S f m x) (hr : Xi S 904 72 + 1 < Xi S 904 69) (e : nf7 (ty7 U) (Xi U 890 3) = p) (e2 : nf7 (ty7 U) (re7 (ty7 U) p) = p2) (h : ty7 U p2 = 100) : RNR U S f (Xi S 904 72 + 1) p2 (re7 (ty7 U) p2) := by
  obtain ⟨r, _, _, _, ⟨_, n, _, n1⟩, _, _, _, _, k, _⟩ := b
  rw [show Xi S 904 72 + 1 = ((nL U + 1 : Nat) : Int) by omega]
  refine rnr_7 r.2.2 r.1 (by omega) ?_ h
  show nf7 (ty7 U) (re7 (ty7 U) (kr7 (ty7 U) (nL U))) = p2
  rw [k, e, e2]
theorem ckT_10 {T : Int → Int} {a x : Int} (t : T a = 0 ∧ T (a + 1) = 18) (h : gOK (ckT T a) x) : T (a + 2) ≠ 7 ∨ (T (a + 2) = 7 ∧ (T (a + 3) = 20 ∨ (T (a + 3) ≠ 20 ∧ T (bA T (a + 3)) = 100))) := by
  unfold ckT at h
  rw [if_pos t] at h
  obtain ⟨b, h, _⟩ := ok_sq h
  by_cases q : (gT T 7 (a + 2)).1 = 0
  · exact Or.inl (ok_Tn q).1
  · rw [if_neg q, (ok_Ty q).2, show a + 2 + 1 = a + 3 by omega] at h
    refine Or.inr ⟨(ok_Ty q).1, ?_⟩
    rcases ok_or h with h | ⟨w, h⟩
    · exact Or.inl (ok_T h).1
    · rw [(ok_Tn w).2] at h
      exact Or.inr ⟨(ok_Tn w).1, (ok_N h).1⟩
theorem ckT_11 {T : Int → Int} {a x : Int} (t : T a = 1 ∧ T (a + 1) = 27) (h : gOK (ckT T a) x) : T (a + 2) = 28 → T (a + 3) = 11 ∧ T (a + 4) = 22 ∧ T (a + 5) = 100 := by
  intro q
  unfold ckT at h
  rw [if_neg (by omega), if_pos t] at h
  obtain ⟨b, h, _⟩ := ok_sq h
  rw [gT_1 q, i10] at h
  obtain ⟨c, h, r⟩ := ok_sq h
  obtain ⟨d, h, s⟩ := ok_sq h
  obtain ⟨h1, u⟩ := ok_T h
  obtain ⟨s, v⟩ := ok_T s
  have r := (ok_R r).1
  have u : d = a + 4 := by have w : d = a + 2 + 1 + 1 := u; omega
  subst u
  rw [v, show a + 4 + 1 = a + 5 by omega] at r
  refine ⟨?_, s, r⟩
  rw [show a + 3 = a + 2 + 1 by omega]
  exact h1
/-- where the NAME of a PLACE may begin -/
def pb7 (T : Int → Int) (b : Int) : Int := if T b = 8 ∨ T b = 9 then b + 1 else b + 2
theorem ok_Pl {T : Int → Int} {a b : Int} (p : pl7 (T a)) (h : gOK (gPl T 0 a) b) : T (bA T (pb7 T a)) = 100 ∧ (pb7 T a = a + 2 → T (a + 1) ≠ 100) := by
  unfold gPl at h
  obtain ⟨c, h, r⟩ := ok_sq h
  rw [if_pos rfl] at r
  have r := (ok_N r).1
  unfold pl7 at p
  unfold pb7
  by_cases q : T a = 29
  · rw [if_pos q] at h
    obtain ⟨t, u⟩ := ok_T h
    rw [u, show a + 1 + 1 = a + 2 by omega] at r
    rw [if_neg (by omega)]
    exact ⟨r, fun _ => by omega⟩
  · rw [if_neg q] at h
    by_cases q2 : T a = 30 ∨ T a = 31
    · rw [if_pos q2] at h
      obtain ⟨t, u⟩ := ok_T h
      rw [u, show a + 1 + 1 = a + 2 by omega] at r
      rw [if_neg (by omega)]
      exact ⟨r, fun _ => by omega⟩
    · rw [if_neg q2] at h
      have u : a + 1 = c := h.2
      rw [← u] at r
      rw [if_pos (by omega)]
      exact ⟨r, fun w => by omega⟩
theorem nf_Pl {T : Int → Int} {a : Int} (p : pl7 (T a)) (h : T (bA T (pb7 T a)) = 100) (k : pb7 T a = a + 2 → T (a + 1) ≠ 100) (l : bA T (pb7 T a) < 5200) : nf7 T a = bA T (pb7 T a) := by
  unfold pl7 at p
  rw [nf_2 (T := T) (a := a) (b := a + 1) (by omega) rfl]
  have c : pb7 T a = a + 1 ∨ pb7 T a = a + 2 := by unfold pb7; split <;> omega
  rcases c with e | e
  · rw [← e]; exact nf_A h l
  · rw [nf_2 (b := a + 2) (k e) (by omega), ← e]; exact nf_A h l
theorem ckT_12 {T : Int → Int} {a x : Int} (t0 : ¬ (T a = 0 ∧ T (a + 1) = 18)) (t1 : ¬ (T a = 1 ∧ T (a + 1) = 27)) (t : art7 (T a)) (h : gOK (ckT T a) x) : T (a + 1) = 100 ∧ (pl7 (T (re7 T (a + 1))) → T (bA T (pb7 T (re7 T (a + 1)))) = 100 ∧ (pb7 T (re7 T (a + 1)) = re7 T (a + 1) + 2 → T (re7 T (a + 1) + 1) ≠ 100)) ∧ (¬ pl7 (T (re7 T (a + 1))) → T (re7 T (a + 1)) = 103) := by
  unfold ckT at h
  rw [if_neg t0, if_neg t1, if_pos t] at h
  obtain ⟨c, h, d⟩ := ok_sq h
  obtain ⟨b, h, r⟩ := ok_sq h
  obtain ⟨h, u⟩ := ok_R h
  rw [u] at r
  refine ⟨h, fun p => ?_, fun p => ?_⟩
  · rw [if_pos p] at r
    exact ok_Pl p r
  · rw [if_neg p] at r
    have v : re7 T (a + 1) = c := r.2
    rw [v]
    exact (ok_T d).1
theorem ckT_13 {T : Int → Int} {a x : Int} (t : ¬ art7 (T a)) (p : pl7 (T a)) (h : gOK (ckT T a) x) : T (bA T (pb7 T a)) = 100 ∧ (pb7 T a = a + 2 → T (a + 1) ≠ 100) := by
  unfold ckT at h
  rw [if_neg (fun q => t (by unfold art7; omega)), if_neg (fun q => t (by unfold art7; omega)), if_neg t, if_pos p] at h
  obtain ⟨c, h, _⟩ := ok_sq h
  exact ok_Pl p h
theorem ckT_R {T : Int → Int} {a x : Int} (t : ¬ art7 (T a)) (p : ¬ pl7 (T a)) (h : gOK (ckT T a) x) : (T a = 6 ∨ T a = 32 → T (a + 1) = 100 ∧ T (re7 T (a + 1)) = 103) ∧ (T a ≠ 6 → T a ≠ 32 → T a = 100 ∧ (T (re7 T a) = 7 → T (bA T (re7 T a + 1)) = 100)) := by
  unfold ckT at h
  rw [if_neg (fun q => t (by unfold art7; omega)), if_neg (fun q => t (by unfold art7; omega)), if_neg t, if_neg p] at h
  refine ⟨fun q => ?_, fun q1 q2 => ?_⟩
  · have e : gOr (gT T 6 a) (gT T 32) = (1, a + 1) := by
      unfold gOr
      by_cases w : T a = 6
      · rw [gT_1 w, i10]
      · rw [gT_0 w, if_pos rfl]; show gT T 32 a = (1, a + 1); exact gT_1 (by omega)
    rw [e] at h
    unfold ckR at h
    obtain ⟨b, h, r⟩ := ok_sq h
    obtain ⟨h, u⟩ := ok_R h
    rw [n10] at r
    rw [u] at r
    exact ⟨h, (ok_T r).1⟩
  · have e : gOr (gT T 6 a) (gT T 32) = (0, a) := by
      unfold gOr
      rw [gT_0 q1, if_pos rfl]; exact gT_0 q2
    rw [e] at h
    unfold ckR at h
    obtain ⟨b, h, r⟩ := ok_sq h
    obtain ⟨h, u⟩ := ok_R h
    refine ⟨h, fun w => ?_⟩
    rw [n00, u, gT_1 w, n10] at r
    obtain ⟨c, r, _⟩ := ok_sq r
    exact (ok_N r).1
theorem bes_v {T : Int → Int} {a : Int} : (T a = 0 ∧ T (a + 1) = 18 → bes T a = 10) ∧ (T a = 1 ∧ T (a + 1) = 27 → bes T a = 11) ∧ (¬ (T a = 0 ∧ T (a + 1) = 18) → ¬ (T a = 1 ∧ T (a + 1) = 27) → art7 (T a) → bes T a = 12) ∧ (¬ art7 (T a) → pl7 (T a) → bes T a = 13) ∧ (T a = 6 ∨ T a = 32 → bes T a = 15) ∧ (T a = 100 → (T (re7 T a) = 7 → bes T a = 14) ∧ (T (re7 T a) = 16 ∨ T (re7 T a) = 104 → bes T a = 16) ∧ (T (re7 T a) ≠ 7 → T (re7 T a) ≠ 16 → T (re7 T a) ≠ 104 → bes T a = 15)) := by
  unfold bes crs art7 pl7
  refine ⟨fun q => by rw [if_pos q], fun q => by rw [if_neg (by omega), if_pos q], fun q r s => by rw [if_neg q, if_neg r, if_pos s], fun q r => by rw [if_neg (by omega), if_neg (by omega), if_neg q, if_pos r], fun q => by rw [if_neg (by omega), if_neg (by omega), if_neg (by omega), if_neg (by omega), if_pos q], fun q => ?_⟩
  rw [if_neg (by omega), if_neg (by omega), if_neg (by omega), if_neg (by omega), if_neg (by omega), if_neg (by decide)]
  refine ⟨fun r => by rw [if_pos r], fun r => by rw [if_neg (by omega), if_pos r], fun r s u => by rw [if_neg r, if_neg (by omega)]⟩
/-- 10 -/
theorem po_10 {U S : sS} {f m n : Nat} {x : Int} (b : BEX U S f m x) (sn : SNQ S n) (t : ty7 U (Xi U 890 3 + 1) = 0 ∧ ty7 U (Xi U 890 3 + 1 + 1) = 18) : Xi U 890 2 = 10 ∧ Xi S 904 70 = 10 ∧ (tyB U = 1 ↔ Xi S 904 78 = -2) ∧ (ofB U = 1 → tyB U = 0 → Xi S 904 78 ≠ -1 ∧ RNR U S f (Xi S 904 78) (r10 U) (re7 (ty7 U) (r10 U))) ∧ (ofB U = 0 → Xi S 904 78 = -1) := by
  have b0 := b
  obtain ⟨r, ⟨tl, q0, q1⟩, ck, nm, ⟨_, _, _, n1⟩, f1, rs, _, _, k, so⟩ := b
  obtain ⟨s0, s1, s2, s3⟩ := rs.1 t
  have c := ckT_10 t ck
  rw [show Xi U 890 3 + 1 + 2 = Xi U 890 3 + 3 by omega] at s1 s2 s3 c
  rw [show Xi U 890 3 + 1 + 3 = Xi U 890 3 + 4 by omega] at s2 s3 c
  rw [show Xi U 890 3 + 1 + 1 = Xi U 890 3 + 2 by omega] at t
  have sq := sn.2.2.2.2.2.2.1 (Or.inl (by omega))
  unfold tyB ofB r10
  refine ⟨by rw [so]; exact bes_v.1 (by rw [show Xi U 890 3 + 1 + 1 = Xi U 890 3 + 2 by omega]; exact t), s0, ?_, fun w1 w2 => ?_, fun w => ?_⟩
  · by_cases w : ty7 U (Xi U 890 3 + 3) = 7 ∧ ty7 U (Xi U 890 3 + 4) = 20
    · rw [if_pos w]; exact ⟨fun _ => s2 w.1 w.2, fun _ => rfl⟩
    · rw [if_neg w]
      refine ⟨fun z => absurd z (by decide), fun z => ?_⟩
      exfalso
      by_cases w1 : ty7 U (Xi U 890 3 + 3) = 7
      · have := s3 w1 (fun y => w ⟨w1, y⟩); omega
      · have := s1 w1; omega
  · have z1 : ty7 U (Xi U 890 3 + 3) = 7 := Classical.byContradiction (fun y => by rw [if_neg y] at w1; exact absurd w1 (by decide))
    have z2 : ty7 U (Xi U 890 3 + 4) ≠ 20 := fun y => by rw [if_pos ⟨z1, y⟩] at w2; exact absurd w2 (by decide)
    have e78 := s3 z1 z2
    have z3 : ty7 U (bA (ty7 U) (Xi U 890 3 + 4)) = 100 := by
      rcases c with y | ⟨_, y | y⟩
      · exact absurd z1 y
      · exact absurd y z2
      · exact y.2
    refine ⟨by omega, ?_⟩
    rw [e78]
    refine rn_L b0 (by omega) ?_ z3
    rw [nf_2 (b := Xi U 890 3 + 1) (by omega) (by omega), nf_2 (b := Xi U 890 3 + 2) (by omega) (by omega), nf_2 (b := Xi U 890 3 + 3) (by omega) (by omega), nf_2 (b := Xi U 890 3 + 4) (by omega) (by omega)]
    exact nf_A z3 (by have := lt_ty r.2.1 z3; omega)
  · exact s1 (fun y => by rw [if_pos y] at w; exact absurd w (by decide))
/-- 11 -/
theorem po_11 {U S : sS} {f m n : Nat} {x : Int} (b : BEX U S f m x) (sn : SNQ S n) (t : ty7 U (Xi U 890 3 + 1) = 1 ∧ ty7 U (Xi U 890 3 + 1 + 1) = 27) : Xi U 890 2 = 11 ∧ Xi S 904 70 = 11 ∧ (ty7 U (Xi U 890 3 + 3) = 28 → Xi S 904 78 ≠ -1 ∧ RNR U S f (Xi S 904 78) (Xi U 890 3 + 6) (re7 (ty7 U) (Xi U 890 3 + 6))) ∧ (ty7 U (Xi U 890 3 + 3) ≠ 28 → Xi S 904 78 = -1) := by
  have b0 := b
  obtain ⟨r, ⟨tl, q0, q1⟩, ck, nm, ⟨_, _, _, n1⟩, f1, rs, _, _, k, so⟩ := b
  obtain ⟨s0, s1, s2⟩ := rs.2.1 t
  have c := ckT_11 t ck
  rw [show Xi U 890 3 + 1 + 2 = Xi U 890 3 + 3 by omega] at s1 s2 c
  rw [show Xi U 890 3 + 1 + 3 = Xi U 890 3 + 4 by omega, show Xi U 890 3 + 1 + 4 = Xi U 890 3 + 5 by omega, show Xi U 890 3 + 1 + 5 = Xi U 890 3 + 6 by omega] at c
  have sb := bes_v.2.1 t
  rw [show Xi U 890 3 + 1 + 1 = Xi U 890 3 + 2 by omega] at t
  have sq := sn.2.2.2.2.2.2.1 (Or.inl (by omega))
  refine ⟨by rw [so]; exact sb, s0, fun w => ?_, s1⟩
  have e78 := s2 w
  obtain ⟨z1, z2, z3⟩ := c w
  refine ⟨by omega, ?_⟩
  rw [e78]
  refine rn_L b0 (by omega) ?_ z3
  rw [nf_2 (b := Xi U 890 3 + 1) (by omega) (by omega), nf_2 (b := Xi U 890 3 + 2) (by omega) (by omega), nf_2 (b := Xi U 890 3 + 3) (by omega) (by omega), nf_2 (b := Xi U 890 3 + 4) (by omega) (by omega), nf_2 (b := Xi U 890 3 + 5) (by omega) (by omega), nf_2 (b := Xi U 890 3 + 6) (by omega) (by omega)]
  exact nf_y z3 (by have := lt_ty r.2.1 z3; omega)
theorem pw_wy {t : Int} (h : pl7 t) : pw7 t = wyC t := by
  unfold pl7 at h
  rcases h with e | e | e | e | e <;> rw [e] <;> rfl
theorem rPl_e {U : sS} {a : Int} : rPl U a = bA (ty7 U) (pb7 (ty7 U) a) := rfl
/-- 12 -/
theorem po_12 {U S : sS} {f m n : Nat} {x : Int} (b : BEX U S f m x) (sn : SNQ S n) (t0 : ¬ (ty7 U (Xi U 890 3 + 1) = 0 ∧ ty7 U (Xi U 890 3 + 1 + 1) = 18)) (t1 : ¬ (ty7 U (Xi U 890 3 + 1) = 1 ∧ ty7 U (Xi U 890 3 + 1 + 1) = 27)) (t : art7 (ty7 U (Xi U 890 3 + 1))) : (Xi U 890 2 = 12 ∧ Xi S 904 70 = 12) ∧ (RNR U S f (Xi S 904 78) (Xi U 890 3 + 2) (at12 U) ∧ Xi S 904 78 = Xi S 904 72) ∧ (ty7 U (at12 U) = 103 → Xi S 904 73 = 0) ∧ (ty7 U (at12 U) ≠ 103 → Xi S 904 73 = wyC (ty7 U (at12 U)) ∧ RNR U S f (Xi S 904 74) (rPl U (at12 U)) (re7 (ty7 U) (rPl U (at12 U))) ∧ Xi S 904 74 = Xi S 904 72 + 1) := by
  have b0 := b
  obtain ⟨r, ⟨tl, q0, q1⟩, ck, nm, ⟨_, _, _, n1⟩, f1, rs, _, _, k, so⟩ := b
  obtain ⟨s0, s1, s2, s3⟩ := rs.2.2.1 t t0 t1
  have sb := bes_v.2.2.1 t0 t1 t
  rw [← so] at sb
  have ea : at12 U = re7 (ty7 U) (Xi U 890 3 + 2) := by unfold at12; rw [if_pos sb]
  obtain ⟨c1, c2, c3⟩ := ckT_12 t0 t1 t ck
  rw [show Xi U 890 3 + 1 + 1 = Xi U 890 3 + 2 by omega] at s2 s3 c1 c2 c3
  rw [← ea] at s2 s3 c2 c3
  have h1 := lt_ty r.2.1 c1
  have sq := sn.2.2.2.2.2.2.1 (Or.inl (by omega))
  have e0 : nf7 (ty7 U) (Xi U 890 3) = Xi U 890 3 + 2 := by
    rw [nf_2 (b := Xi U 890 3 + 1) (by omega) (by omega), nf_2 (b := Xi U 890 3 + 2) (by unfold art7 at t; omega) (by omega)]
    exact nf_y c1 (by omega)
  refine ⟨⟨sb, s0⟩, ⟨?_, s1⟩, s2, fun w => ?_⟩
  · rw [s1, ea]
    exact rn_L b0 (by omega) e0 c1
  · obtain ⟨s4, s5⟩ := s3 w
    have p : pl7 (ty7 U (at12 U)) := Classical.byContradiction (fun y => w (c3 y))
    obtain ⟨c4, c5⟩ := c2 p
    have sq2 := sn.2.2.2.2.2.2.2.2.1 (Or.inr (Or.inr ⟨s0, by rw [s4, pw_wy p]; unfold wyC; split <;> (try split) <;> (try split) <;> (try split) <;> omega⟩))
    refine ⟨by rw [s4]; exact pw_wy p, ?_, s5⟩
    rw [s5, rPl_e]
    refine rn_L1 b0 (by omega) e0 ?_ c4
    rw [← ea]
    exact nf_Pl p c4 c5 (by have := lt_ty r.2.1 c4; omega)
/-- 13 -/
theorem po_13 {U S : sS} {f m n : Nat} {x : Int} (b : BEX U S f m x) (sn : SNQ S n) (t : ¬ art7 (ty7 U (Xi U 890 3 + 1))) (p : pl7 (ty7 U (Xi U 890 3 + 1))) : (Xi U 890 2 = 13 ∧ Xi S 904 70 = 13) ∧ ty7 U (at12 U) ≠ 103 ∧ (Xi S 904 73 = wyC (ty7 U (at12 U)) ∧ RNR U S f (Xi S 904 74) (rPl U (at12 U)) (re7 (ty7 U) (rPl U (at12 U))) ∧ Xi S 904 74 = Xi S 904 72) := by
  have b0 := b
  obtain ⟨r, ⟨tl, q0, q1⟩, ck, nm, ⟨_, _, _, n1⟩, f1, rs, _, _, k, so⟩ := b
  have p2 := p
  unfold pl7 at p2
  obtain ⟨s0, s1, s2⟩ := rs.2.2.2.2.2 (by omega) (by omega) (by omega) t
  have sb := bes_v.2.2.2.1 t p
  rw [← so] at sb
  have ea : at12 U = Xi U 890 3 + 1 := by unfold at12; rw [if_neg (by omega)]
  obtain ⟨c1, c2⟩ := ckT_13 t p ck
  have sq2 := sn.2.2.2.2.2.2.2.2.1 (Or.inl s0)
  rw [ea]
  refine ⟨⟨sb, s0⟩, by omega, by rw [s1]; exact pw_wy p, ?_, s2⟩
  rw [s2, rPl_e]
  refine rn_L b0 (by omega) ?_ c1
  rw [nf_2 (b := Xi U 890 3 + 1) (by omega) (by omega)]
  exact nf_Pl p c1 c2 (by have := lt_ty r.2.1 c1; omega)
/-- 14 -/
theorem po_14 {U S : sS} {f m n : Nat} {x : Int} (b : BEX U S f m x) (sn : SNQ S n) (t : ty7 U (Xi U 890 3 + 1) = 100) (w : ty7 U (re7 (ty7 U) (Xi U 890 3 + 1)) = 7) : (Xi U 890 2 = 14 ∧ Xi S 904 70 = 14) ∧ (RNR U S f (Xi S 904 78) (Xi U 890 3 + 1) (o14 U) ∧ Xi S 904 78 = Xi S 904 72) ∧ RNR U S f (Xi S 904 74) (l14 U) (re7 (ty7 U) (l14 U)) ∧ Xi S 904 74 = Xi S 904 72 + 1 := by
  have b0 := b
  obtain ⟨r, ⟨tl, q0, q1⟩, ck, nm, ⟨_, _, _, n1⟩, f1, rs, _, _, k, so⟩ := b
  obtain ⟨s1, s2, _⟩ := rs.2.2.2.2.1 t
  obtain ⟨s0, s3⟩ := s2 w
  have sb := (bes_v.2.2.2.2.2 t).1 w
  rw [← so] at sb
  have c := ((ckT_R (by unfold art7; omega) (by unfold pl7; omega) ck).2 (by omega) (by omega)).2 w
  have sq := sn.2.2.2.2.2.2.1 (Or.inr (by omega))
  have sq2 := sn.2.2.2.2.2.2.2.2.1 (Or.inr (Or.inl s0))
  have h1 := lt_ty r.2.1 t
  have e0 : nf7 (ty7 U) (Xi U 890 3) = Xi U 890 3 + 1 := by
    rw [nf_2 (b := Xi U 890 3 + 1) (by omega) (by omega)]
    exact nf_y t (by omega)
  refine ⟨⟨sb, s0⟩, ⟨by rw [s1]; exact rn_L b0 (by omega) e0 t, s1⟩, ?_, s3⟩
  rw [s3]
  unfold l14 o14
  refine rn_L1 b0 (by omega) e0 ?_ c
  rw [nf_2 (b := re7 (ty7 U) (Xi U 890 3 + 1) + 1) (by omega) (by omega)]
  exact nf_A c (by have := lt_ty r.2.1 c; omega)
/-- 15: not or usually -/
theorem po_15 {U S : sS} {f m n : Nat} {x : Int} (b : BEX U S f m x) (sn : SNQ S n) (t : ty7 U (Xi U 890 3 + 1) = 6 ∨ ty7 U (Xi U 890 3 + 1) = 32) : (Xi U 890 2 = 15 ∧ Xi S 904 70 = 15) ∧ (RNR U S f (Xi S 904 78) (Xi U 890 3 + 2) (re7 (ty7 U) (Xi U 890 3 + 2)) ∧ Xi S 904 78 = Xi S 904 72) ∧ (ty7 U (Xi U 890 3 + 1) = 6 → Xi S 904 75 = 1 ∧ Xi S 904 76 = 0) ∧ (ty7 U (Xi U 890 3 + 1) = 32 → Xi S 904 75 = 0 ∧ Xi S 904 76 = 1) := by
  have b0 := b
  obtain ⟨r, ⟨tl, q0, q1⟩, ck, nm, ⟨_, _, _, n1⟩, f1, rs, _, _, k, so⟩ := b
  obtain ⟨s0, s1, s2, s3⟩ := rs.2.2.2.1 t
  have sb := bes_v.2.2.2.2.1 t
  rw [← so] at sb
  have c := ((ckT_R (by unfold art7; omega) (by unfold pl7; omega) ck).1 t).1
  rw [show Xi U 890 3 + 1 + 1 = Xi U 890 3 + 2 by omega] at c
  have sq := sn.2.2.2.2.2.2.1 (Or.inr (by omega))
  have h1 := lt_ty r.2.1 c
  refine ⟨⟨sb, s0⟩, ⟨?_, s1⟩, s2, s3⟩
  rw [s1]
  refine rn_L b0 (by omega) ?_ c
  rw [nf_2 (b := Xi U 890 3 + 1) (by omega) (by omega), nf_2 (b := Xi U 890 3 + 2) (by omega) (by omega)]
  exact nf_y c (by omega)
/-- 15, 16: a RUN, or RUNS -/
theorem po_16 {U S : sS} {f m n : Nat} {x : Int} (b : BEX U S f m x) (sn : SNQ S n) (t : ty7 U (Xi U 890 3 + 1) = 100) (w : ty7 U (re7 (ty7 U) (Xi U 890 3 + 1)) ≠ 7) : ((Xi U 890 2 = 15 ∧ Xi S 904 70 = 15 ∧ Xi S 904 75 = 0 ∧ Xi S 904 76 = 0) ∨ (Xi U 890 2 = 16 ∧ Xi S 904 70 = 16)) ∧ RNR U S f (Xi S 904 78) (Xi U 890 3 + 1) (re7 (ty7 U) (Xi U 890 3 + 1)) ∧ Xi S 904 78 = Xi S 904 72 := by
  have b0 := b
  obtain ⟨r, ⟨tl, q0, q1⟩, ck, nm, ⟨_, _, _, n1⟩, f1, rs, _, no, k, so⟩ := b
  obtain ⟨s1, _, s2, s3⟩ := rs.2.2.2.2.1 t
  obtain ⟨_, u2, u3⟩ := bes_v.2.2.2.2.2 t
  rw [← so] at u2 u3
  have so7 : (Xi U 890 2 = 15 ∧ Xi S 904 70 = 15 ∧ Xi S 904 75 = 0 ∧ Xi S 904 76 = 0) ∨ (Xi U 890 2 = 16 ∧ Xi S 904 70 = 16) := by
    by_cases q : ty7 U (re7 (ty7 U) (Xi U 890 3 + 1)) = 16 ∨ ty7 U (re7 (ty7 U) (Xi U 890 3 + 1)) = 104
    · exact Or.inr ⟨u2 q, s2 q⟩
    · have z := s3 w (by omega) (by omega)
      exact Or.inl ⟨u3 w (by omega) (by omega), z, no (Or.inl z) t⟩
  have sq := sn.2.2.2.2.2.2.1 (Or.inr (by omega))
  have h1 := lt_ty r.2.1 t
  refine ⟨so7, ?_, s1⟩
  rw [s1]
  refine rn_L b0 (by omega) ?_ t
  rw [nf_2 (b := Xi U 890 3 + 1) (by omega) (by omega)]
  exact nf_y t (by omega)
/-- 9 -/
theorem po_9 {U S : sS} {f m n : Nat} {x : Int} (r : RD7S U S f m) (c : chk (ty7 U) = (1, x)) (n7 : ¬ (ty7 U 0 = 2 ∧ ty7 U 1 = 25)) (n8 : ¬ (ty7 U 0 = 2 ∧ ty7 U 1 = 19)) (k : kt7 (ty7 U) = 4 ∨ kt7 (ty7 U) = 5) (nb : bp7 (ty7 U) 0) (tel : Xi U 890 3 = tk7 (ty7 U)) (be : BES U (ty7 U)) (cr : C9S S (ty7 U) f) (sn : SNQ S n) (tok : ∀ i : Int, 0 ≤ i → i < Xi U 876 7 → Xi S 907 (f + i).toNat = tr7 (ty7 U i)) : (Xi U 890 2 = 9 ∧ Xi S 904 70 = 9) ∧ RNR U S f 0 1 (re7 (ty7 U) 1) ∧ RNR U S f 1 (bA (ty7 U) (re7 (ty7 U) 1 + 1)) (re7 (ty7 U) (bA (ty7 U) (re7 (ty7 U) 1 + 1))) ∧ Xi U 890 3 = re7 (ty7 U) (bA (ty7 U) (re7 (ty7 U) 1 + 1)) ∧ Xi U 890 3 + 1 < Xi U 876 7 ∧ (ty7 U (Xi U 890 3 + 1) = 101 ∨ ty7 U (Xi U 890 3 + 1) = 102 ∨ ty7 U (Xi U 890 3 + 1) = 100) ∧ (ty7 U (Xi U 890 3 + 1) = 100 → RNR U S f 2 (Xi U 890 3 + 1) (re7 (ty7 U) (Xi U 890 3 + 1))) ∧ Xi S 904 78 = f + (Xi U 890 3 + 1) := by
  have nb0 : ty7 U 0 = 2 ∧ ty7 U 1 = 100 ∧ ty7 U (re7 (ty7 U) 1) = 7 := nb
  have h := ok_o (ok_1 c) (by omega)
  unfold ckO ckB at h
  rw [if_neg n7, if_neg n8, if_pos k, if_pos nb] at h
  obtain ⟨a3, h, _⟩ := ok_sq h
  obtain ⟨a2, h, x3⟩ := ok_sq h
  obtain ⟨a1, h, x2⟩ := ok_sq h
  obtain ⟨t1, u1⟩ := ok_N h
  obtain ⟨t2, u2⟩ := ok_Be x2
  subst u1
  subst u2
  obtain ⟨hT, h7, ks⟩ := r
  have l1 := lt_ty h7 t1
  have g1 := (re7_c (T := ty7 U) (a := bA (ty7 U) (re7 (ty7 U) 1 + 1))).1 t1
  have g0 := (re7_c (T := ty7 U) (a := 1)).1 nb0.2.1
  have bc := bA_c (T := ty7 U) (a := re7 (ty7 U) 1 + 1)
  have in2 := ty_in (U := U) (i := re7 (ty7 U) (bA (ty7 U) (re7 (ty7 U) 1 + 1))) (by omega)
  have tk : tk7 (ty7 U) = re7 (ty7 U) (bA (ty7 U) (re7 (ty7 U) 1 + 1)) := by
    refine tk_to ⟨by omega, by omega⟩ (fun i i0 i1 => ?_) (by unfold tl7; omega)
    by_cases w1 : i = 0
    · rw [w1]; unfold tl7; omega
    · by_cases w2 : i < re7 (ty7 U) 1
      · have z := re_in (T := ty7 U) (a := 1) (j := i) (by omega) w2
        unfold tl7; omega
      · by_cases w3 : i = re7 (ty7 U) 1
        · rw [w3]; unfold tl7; omega
        · rcases (na_in t1).2 i (by omega) i1 with z | z
          · unfold tl7; omega
          · unfold art7 at z; unfold tl7; omega
  rw [tk] at tel
  rw [← tel] at t2 x3 in2
  have w3 : ty7 U (Xi U 890 3 + 1) = 101 ∨ ty7 U (Xi U 890 3 + 1) = 102 ∨ ty7 U (Xi U 890 3 + 1) = 100 := by
    unfold gWh at x3
    rcases ok_or x3 with z | ⟨y, z⟩
    · rcases ok_or z with z | ⟨y, z⟩
      · exact Or.inl (ok_T z).1
      · rw [(ok_Tn y).2] at z; exact Or.inr (Or.inl (ok_T z).1)
    · have v : (gOr (gT (ty7 U) 101 (Xi U 890 3 + 1)) (gT (ty7 U) 102)).2 = Xi U 890 3 + 1 := by
        unfold gOr at y ⊢
        by_cases s : (gT (ty7 U) 101 (Xi U 890 3 + 1)).1 = 0
        · rw [if_pos s, (ok_Tn s).2] at y ⊢; exact (ok_Tn y).2
        · rw [if_neg s] at y; exact absurd y s
      rw [v] at z
      exact Or.inr (Or.inr (ok_R z).1)
  have in3 := ty_in (U := U) (i := Xi U 890 3 + 1) (by omega)
  obtain ⟨c70, a, ca, c78⟩ := cr
  have ea : a = Xi U 890 3 + 1 := by
    obtain ⟨b3, y, z3⟩ := ok_sq (ok_1 ca)
    obtain ⟨b2, y, z2⟩ := ok_sq y
    obtain ⟨b1, y, z1⟩ := ok_sq y
    obtain ⟨_, v1⟩ := ok_R y
    obtain ⟨_, v2⟩ := ok_T z1
    obtain ⟨_, v3⟩ := ok_N z2
    obtain ⟨_, v4⟩ := ok_Be z3
    subst v1
    subst v2
    subst v3
    omega
  rw [ea] at c78
  have sn9 := sn.2.2.1 (Or.inr (Or.inr (Or.inr c70)))
  have sn3 := (sn.2.2.2.2.1 c70).2.2
  have e0 : kr7 (ty7 U) 0 = 1 := by
    show nf7 (ty7 U) 0 = 1
    rw [nf_2 (b := 1) (by omega) (by omega)]
    exact nf_y nb0.2.1 (by omega)
  have e1 : kr7 (ty7 U) 1 = bA (ty7 U) (re7 (ty7 U) 1 + 1) := by
    show nf7 (ty7 U) (re7 (ty7 U) (kr7 (ty7 U) 0)) = _
    rw [e0, nf_2 (b := re7 (ty7 U) 1 + 1) (by omega) (by omega)]
    exact nf_A t1 (by omega)
  refine ⟨⟨be.1 nb, c70⟩, rnr_7 (k := 0) ks hT (by omega) e0 nb0.2.1, rnr_7 (k := 1) ks hT (by omega) e1 t1, tel, in3.2, w3, fun w => ?_, c78⟩
  have tn : Xi S 907 (Xi S 904 78).toNat ≠ 4 ∧ Xi S 907 (Xi S 904 78).toNat ≠ 5 := by
    rw [c78, tok _ in3.1 in3.2, w]
    exact ⟨by decide, by decide⟩
  have e2 : kr7 (ty7 U) 2 = Xi U 890 3 + 1 := by
    show nf7 (ty7 U) (re7 (ty7 U) (kr7 (ty7 U) 1)) = _
    rw [e1, ← tel, nf_2 (b := Xi U 890 3 + 1) (by omega) (by omega)]
    exact nf_y w (by omega)
  exact rnr_7 (k := 2) ks hT (by have := sn3 tn.1 tn.2; omega) e2 w

/-! where a sentence's parts lie: values, the second NAME, places in their order -/
theorem po_v {U S : sS} {f m n : Nat} {x : Int} (b : BEX U S f m x) (rv : RNV S n) (hd : ty7 U (Xi U 876 7 - 1) = 103) (kc : kr7 (ty7 U) (Xi S 904 69).toNat = nf7 (ty7 U) (Xi U 876 7 - 1)) (e78 : Xi S 904 78 = Xi S 904 72) (l : Xi S 904 78 < Xi S 904 69) : LRNo (n0V U) U S f (Xi S 904 78) (nV5 U) ∧ (Xi S 904 69 - Xi S 904 78).toNat = nV5 U := by
  obtain ⟨r, ⟨tl, q0, q1⟩, ck, nm, ⟨_, n2, _, n1⟩, f1, rs, _, _, k, so⟩ := b
  have h7 := r.2.1
  have i7 := ty_in (U := U) (i := Xi U 876 7 - 1) (by omega)
  have e0 : n0V U = nL U := cR_n (by omega) (fun w => by have := w.1; omega)
  have e1 : cR (ty7 U) (Xi U 876 7 - 1).toNat = (Xi S 904 69).toNat := ls_n nf_ty (by omega) (by omega) (by omega) (by omega) kc (fun j hj => rnv_100 r rv j (by omega)) (by rw [ty7_o (Or.inl (by decide))]; decide)
  have e2 : nV5 U = (Xi S 904 69).toNat - nL U := by unfold nV5; rw [e1, e0]
  refine ⟨fun i hi => ?_, by omega⟩
  rw [e0, show Xi S 904 78 + (i : Int) = ((nL U + i : Nat) : Int) by omega]
  exact rnr_7 r.2.2 r.1 (by omega) rfl (rnv_100 r rv _ (by omega))
/-- places of runs stand in their order -/
def PRO (S : sS) : Prop := ∀ i j : Int, 0 ≤ i → i < j → j < Xi S 904 69 → pR S i < pR S j
theorem pro_i {U S : sS} {f m n : Nat} (r : RD7S U S f m) (rv : RNV S n) (sr : SRL U S f) (po : ∀ i j : Int, 0 ≤ i → i < j → j < Xi U 876 7 → pc7 U i < pc7 U j) : PRO S := fun i j h0 h1 h2 => by
  have ti := rnv_100 r rv i.toNat (by omega)
  have tj := rnv_100 r rv j.toNat (by omega)
  have ki := rn_pc sr (rnr_7 r.2.2 r.1 (by omega) rfl ti)
  have kj := rn_pc sr (rnr_7 r.2.2 r.1 (by omega) rfl tj)
  rw [show ((i.toNat : Nat) : Int) = i by omega] at ki
  rw [show ((j.toNat : Nat) : Int) = j by omega] at kj
  rw [← ki, ← kj]
  have ri := ty_row ti
  have rj := ty_row tj
  have lt := kr_lt (T := ty7 U) (L := j.toNat) (fun k hk => rnv_100 r rv k (by omega)) (by rw [ty7_o (Or.inl (by decide))]; decide) (by omega) j.toNat i.toNat (by omega) (Nat.le_refl _)
  exact po _ _ ri.1 lt rj.2.1
theorem po_s {U S : sS} {f m : Nat} {x : Int} (b : BEX U S f m x) (sr : SRL U S f) : RNR U S f (Xi S 904 71) (bA (ty7 U) 0) (re7 (ty7 U) (bA (ty7 U) 0)) ∧ (1 < Xi S 904 72 → sn2 U ≠ -1 ∧ pc7 U (sn2 U) = pR S (Xi S 904 71 + 1)) ∧ (Xi S 904 72 ≤ 1 → sn2 U = -1) := by
  obtain ⟨r, ⟨tl, q0, q1⟩, ck, nm, ⟨l, n2, n3, n1⟩, f1, rs, _, _, k, so⟩ := b
  have h7 := r.2.1
  have k0 := l 0 (by omega)
  have e0 : kr7 (ty7 U) 0 = bA (ty7 U) 0 := nf_A nm (by have := lt_ty h7 nm; omega)
  rw [show Xi S 904 71 + ((0 : Nat) : Int) = Xi S 904 71 by omega, e0] at k0
  refine ⟨k0, fun w => ?_, fun w => ?_⟩
  · have k1 := l 1 (by omega)
    have p1 := rn_pc sr k1
    have h1 := k1.1
    unfold sn2
    rw [if_pos (by omega)]
    exact ⟨by omega, p1⟩
  · unfold sn2
    rw [if_neg (by omega)]
end
section
/-! TOKENS of both agree -/
theorem t7_100 {K B : Nat → Int} {e p : Int} (h : t7 K B e p ≤ 100) : q7 B e p ≠ -1 ∧ lt7 (B p.toNat) ≠ 0 := by
  unfold t7 at h
  by_cases q : q7 B e p = -1
  · rw [if_pos q] at h; omega
  · rw [if_neg q] at h
    by_cases l : lt7 (B p.toNat) ≠ 0
    · exact ⟨q, l⟩
    · rw [if_neg l] at h
      exfalso
      split at h
      · omega
      · split at h
        · omega
        · split at h
          · omega
          · split at h
            · omega
            · split at h <;> omega
theorem t7_101 {K B : Nat → Int} {e p : Int} (h : t7 K B e p = 101) : q7 B e p ≠ -1 ∧ lt7 (B p.toNat) = 0 ∧ 48 ≤ B p.toNat ∧ B p.toNat ≤ 57 := by
  have r := kyF_r (K := K) (c := v7 B e p) (df := 100) 55 0 (by omega)
  unfold t7 ky7 at h
  by_cases q : q7 B e p = -1
  · rw [if_pos q] at h; omega
  · rw [if_neg q] at h
    by_cases l : lt7 (B p.toNat) ≠ 0
    · rw [if_pos l] at h; omega
    · rw [if_neg l] at h
      by_cases d : 48 ≤ B p.toNat ∧ B p.toNat ≤ 57
      · exact ⟨q, by omega, d.1, d.2⟩
      · rw [if_neg d] at h
        exfalso
        split at h
        · omega
        · split at h
          · omega
          · split at h
            · omega
            · split at h <;> omega
theorem t7_102 {K B : Nat → Int} {e p : Int} (h : t7 K B e p = 102) : q7 B e p ≠ -1 ∧ B p.toNat = 34 := by
  have r := kyF_r (K := K) (c := v7 B e p) (df := 100) 55 0 (by omega)
  unfold t7 ky7 at h
  by_cases q : q7 B e p = -1
  · rw [if_pos q] at h; omega
  · rw [if_neg q] at h
    by_cases l : lt7 (B p.toNat) ≠ 0
    · rw [if_pos l] at h; omega
    · rw [if_neg l] at h
      by_cases d : 48 ≤ B p.toNat ∧ B p.toNat ≤ 57
      · rw [if_pos d] at h; omega
      · rw [if_neg d] at h
        by_cases x : B p.toNat = 34
        · exact ⟨q, x⟩
        · rw [if_neg x] at h
          exfalso
          split at h
          · omega
          · split at h
            · omega
            · split at h <;> omega
/-- row r of the class is token f + r of the reference -/
def TKE (T S : sS) (f r : Nat) : Prop := Xi S 908 (f + r) = Xi T 878 r ∧ Xi S 907 (f + r) = tr7 (Xi T 877 r) ∧ (Xi T 877 r ≤ 100 → Xj S 910 (f + r) = cv (Xj T 879 r) ∧ ∃ (B : Nat → Int) (p m : Nat), m ≤ 12 ∧ Xj T 879 r = c27 B p m) ∧ (Xi T 877 r = 101 → Xj S 910 (f + r) = Xj T 879 r) ∧ (Xi T 877 r = 102 → Xi S 909 (f + r) = Xj T 879 r)
theorem tke_of {T S : sS} {ts f r : Nat} {e : Int} (hK : KEYR (Xj T 880) (Xj S 911)) (hB : BE (Xi T ts) (Xi S 906) e) (he : Xi T 876 5 = e) (hr : RW7 T ts r) (hm : RM7 (Xi S 906) (Xj S 911) e S (f + r)) (hp : Xi S 908 (f + r) = Xi T 878 r) : TKE T S f r := by
  obtain ⟨a0, a1, a2, a3⟩ := hr
  obtain ⟨b0, b1, b2, b3⟩ := hm
  rw [he] at a1 a2 a3
  rw [hp] at b0 b1 b2 b3
  have tc := t7_c (K := Xj T 880) hB a0 a1
  have qc := q7_c hB a0 a1
  have bc : Xi T ts (Xi T 878 r).toNat = Xi S 906 (Xi T 878 r).toNat := hB _ (by omega)
  have wi := weF_in (B := Xi S 906) (e := e) (p := Xi T 878 r) (by omega)
  have wl := (weF_le (B := Xi S 906) (e := e) (e - Xi T 878 r).toNat (Xi T 878 r)).1
  have wd : we7 (Xi S 906) e (Xi T 878 r) = weF (Xi S 906) e (e - Xi T 878 r).toNat (Xi T 878 r) := rfl
  refine ⟨hp, ?_, fun q => ?_, fun q => ?_, fun q => ?_⟩
  · rw [b2, m7_t hK, ← tc, ← a2]
  · rw [a2] at q
    obtain ⟨q1, q2⟩ := t7_100 q
    have v := a3 q1
    rw [qc] at q1
    rw [bc] at q2
    have w := (b3 q1).1 q2
    have l12 : we7 (Xi S 906) e (Xi T 878 r) - Xi T 878 r ≤ 12 := by
      unfold q7 at q1
      rw [if_pos q2] at q1
      split at q1
      · assumption
      · exact absurd rfl q1
    rw [v7_c hB a0 a1] at v
    have vv : v7 (Xi S 906) e (Xi T 878 r) = c27 (Xi S 906) (Xi T 878 r).toNat (we7 (Xi S 906) e (Xi T 878 r) - Xi T 878 r).toNat := if_pos q2
    rw [vv] at v
    refine ⟨?_, _, _, _, (by omega : (we7 (Xi S 906) e (Xi T 878 r) - Xi T 878 r).toNat ≤ 12), v⟩
    rw [w, v]
    exact (cv_c _ 13 (by omega)).symm
  · rw [a2] at q
    obtain ⟨q1, q2, q3, q4⟩ := t7_101 q
    have v := a3 q1
    rw [qc] at q1
    rw [bc] at q2 q3 q4
    have w := (b3 q1).2.1 q2 q3 q4
    rw [v7_c hB a0 a1] at v
    have vv : v7 (Xi S 906) e (Xi T 878 r) = dvF (Xi S 906) (Xi T 878 r).toNat (de7 (Xi S 906) e (Xi T 878 r) - Xi T 878 r).toNat := by
      unfold v7
      rw [if_neg (fun z => z q2), if_pos ⟨q3, q4⟩]
    rw [w, v, vv]
  · rw [a2] at q
    obtain ⟨q1, q2⟩ := t7_102 q
    have v := a3 q1
    rw [qc] at q1
    rw [bc] at q2
    have w := (b3 q1).2.2 q2
    rw [v7_c hB a0 a1] at v
    have vv : v7 (Xi S 906) e (Xi T 878 r) = te7 (Xi S 906) e (Xi T 878 r + 1) - Xi T 878 r - 1 := by
      unfold v7
      rw [if_neg (fun z => z (by rw [q2]; rfl)), if_neg (by omega), if_pos q2]
    rw [w, v, vv]
theorem tr7_2 {t : Int} (h : tr7 t = 2) (h1 : t ≤ 108) (h0 : 0 ≤ t) : t = 108 := by
  have e := un_t ⟨h0, h1⟩
  rw [h] at e
  have z : un7 2 = 108 := rfl
  omega
theorem deF_ge {B : Nat → Int} {e : Int} : ∀ (f : Nat) (p : Int), p ≤ deF B e f p
  | 0, p => Int.le_refl p
  | f + 1, p => by
    show p ≤ if p < e ∧ 48 ≤ B p.toNat ∧ B p.toNat ≤ 57 then deF B e f (p + 1) else p
    have t := deF_ge (B := B) (e := e) f (p + 1)
    split
    · omega
    · exact Int.le_refl p
theorem q7_ge {B : Nat → Int} {e p : Int} (h0 : 0 ≤ p) (h : q7 B e p ≠ -1) : 0 ≤ q7 B e p := by
  have a := (weF_le (B := B) (e := e) (e - p).toNat p).1
  have a2 : we7 B e p = weF B e (e - p).toNat p := rfl
  have b := deF_ge (B := B) (e := e) (e - p).toNat p
  have b2 : de7 B e p = deF B e (e - p).toNat p := rfl
  have c := teF_le (B := B) (e := e) (e - (p + 1)).toNat (p + 1)
  have c2 : te7 B e (p + 1) = teF B e (e - (p + 1)).toNat (p + 1) := rfl
  unfold q7 at h ⊢
  by_cases l : lt7 (B p.toNat) ≠ 0
  · rw [if_pos l] at h ⊢
    split at h
    · rename_i w; rw [if_pos w]; omega
    · exact absurd rfl h
  rw [if_neg l] at h ⊢
  by_cases d : 48 ≤ B p.toNat ∧ B p.toNat ≤ 57
  · rw [if_pos d] at h ⊢
    split at h
    · rename_i w; rw [if_pos w]; omega
    · exact absurd rfl h
  rw [if_neg d] at h ⊢
  by_cases x : B p.toNat = 34
  · rw [if_pos x] at h ⊢
    split at h
    · rename_i w; rw [if_pos w]; omega
    · exact absurd rfl h
  rw [if_neg x] at h ⊢
  split at h
  · rename_i w; rw [if_pos w]; omega
  · exact absurd rfl h
/-- all rows of a sentence that begins at token f -/
theorem tk_all {T S : sS} {ts f n : Nat} {e p m : Int} (hH : HI T) (hK : KEYR (Xj T 880) (Xj S 911)) (hB : BE (Xi T ts) (Xi S 906) e) (he : Xi T 876 5 = e) (hC : CUT (Xi S 906) (Xj S 911) e S n) (hS : SC T ts p m) (hf : f < n) (hp : Xi S 908 f = p) : ∀ r : Nat, (r : Int) < m → f + r < n ∧ TKE T S f r
  | 0, h => ⟨by omega, tke_of hK hB he (hS.2.1 0 h) (hC.1.2.1 (f + 0) (by omega)) (by rw [hS.1 (by omega)]; exact hp)⟩
  | r + 1, h => by
    obtain ⟨h1, h2⟩ := tk_all hH hK hB he hC hS hf hp r (by omega)
    obtain ⟨c1, c2, c3, _⟩ := hS.2.2 r (by omega)
    obtain ⟨a0, a1, _, _⟩ := hS.2.1 r (by omega)
    obtain ⟨d0, d1, _, _⟩ := hS.2.1 (r + 1) (by omega)
    rw [he] at c1 a1 d1
    have rg := hH.c 877 r
    have rl : lh 877 r = (0, 108) := rfl
    rw [rl] at rg
    have ne : Xi S 907 (f + r) ≠ 2 := fun z => by
      rw [h2.2.1] at z
      exact c3 (tr7_2 z rg.2 rg.1)
    have qc := q7_c hB a0 a1
    have q0 : q7 (Xi S 906) e (Xi S 908 (f + r)) ≠ -1 := rm_q (hC.1.2.1 (f + r) (by omega)) ne
    have lt : f + (r + 1) < n := by
      rcases (by omega : f + (r + 1) < n ∨ f + r = n - 1) with z | z
      · exact z
      · exfalso
        rcases hC.2.2.2.2 (by omega) with y | y
        · rw [← z] at y; exact ne y
        · rw [← z, h2.1, ← qc, ← sk7_c2 hB (q7_ge a0 (by rw [qc, ← h2.1]; exact q0)), ← c1] at y
          omega
    refine ⟨lt, tke_of hK hB he (hS.2.1 (r + 1) (by omega)) (hC.1.2.1 (f + (r + 1)) (by omega)) ?_⟩
    have k := (hC.1.2.2 (f + r) (by omega)).1
    rw [show f + (r + 1) = f + r + 1 by omega, k, h2.1, ← qc, c1]
    exact (sk7_c2 hB (q7_ge a0 (by rw [qc, ← h2.1]; exact q0))).symm
end
