section
/-! the reference asks whether a LIST is new -/
def NWR (S : sS) (f : Int) (i : Nat) : Prop := nwR0 S (f + i) ∧ ∀ j : Nat, j < i → ¬ alR S (f + i) (f + j)
def LKR (S : sS) (f c M : Int) (n : Nat) : Prop := ∀ i : Nat, i < n → NWR S f i ∧ c + i < M
def RLF (S : sS) (f c M : Int) (n : Nat) (x : Int × Int × Int) : Prop := ∀ k : Nat, k < n → LKR S f c M k → (¬ NWR S f k → NTB x 3 (pR S (f + k))) ∧ (NWR S f k → M ≤ c + k → NTB x 9 (pR S (f + k)))
def RLI (S U : sS) (f c M : Int) (i : Nat) (nn : Int) : Prop := (LKR S f c M i → NT3 U = NT3 S ∧ nn = c + i ∧ Xi U 904 108 = i ∧ ∀ j : Nat, j < i → Xi U 966 j = f + j) ∧ RLF S f c M i (NT3 U) ∧ 0 ≤ Xi U 904 108
theorem rli_0 {S U : sS} {f c M nn : Int} (h : NT3 U = NT3 S) (hn : nn = c) (h9 : Xi U 904 108 = 0) : RLI S U f c M 0 nn := ⟨fun _ => ⟨h, by omega, by omega, fun j hj => by omega⟩, fun k hk => by omega, by omega⟩
theorem nwr_u {S U : sS} {f : Int} {i : Nat} (sm : SMR S U) (h9 : Xi U 904 108 = i) (h6 : ∀ j : Nat, j < i → Xi U 966 j = f + j) : nwR U (f + i) ↔ NWR S f i := by
  unfold nwR NWR nwR0
  rw [rmR_sm sm, sm.2.1 951 _ (by omega), h9]
  constructor
  · rintro ⟨a, b, c⟩
    exact ⟨⟨a, b⟩, fun j hj w => c j (by omega) (by rw [h6 j hj, alR_sm sm]; exact w)⟩
  · rintro ⟨⟨a, b⟩, c⟩
    exact ⟨a, b, fun j hj w => c j (by omega) (by rw [h6 j (by omega), alR_sm sm] at w; exact w)⟩
theorem rli_s {S U V : sS} {f c M nn z r p : Int} {i : Nat} (h : RLI S U f c M i nn) (y : nwR U r → NT3 V = (if nn < M then NT3 U else ntF (NT3 U) 9 p) ∧ Xi V 904 108 = Xi U 904 108 + 1 ∧ Xi V 966 (Xi U 904 108).toNat = r ∧ ∀ k : Nat, (k : Int) < Xi U 904 108 → Xi V 966 k = Xi U 966 k) (n : ¬ nwR U r → NT3 V = ntF (NT3 U) 3 p ∧ Xi V 904 108 = Xi U 904 108 ∧ ∀ k : Nat, Xi V 966 k = Xi U 966 k) (hz : (z = 1 → nwR U r) ∧ (z = 0 → ¬ nwR U r)) (h01 : z = 0 ∨ z = 1) (hr : r = f + i) (sm : SMR S U) (hpp : p = pR S (f + i)) (hp : ∀ k : Nat, k < i → pR S (f + k) < pR S (f + i)) (h0 : (NT3 S).1 = 0) : RLI S V f c M (i + 1) (nn + z) := by
  obtain ⟨a, b, d⟩ := h
  subst hr; subst hpp
  have keep : ∀ g q, NTB (NT3 U) g q → g ≠ 0 → q < pR S (f + i) → NTB (NT3 V) g q := fun g q t hg hq => by
    by_cases w : nwR U (f + i)
    · rw [(y w).1]
      split
      · exact t
      · exact ntb_k t hg hq
    · rw [(n w).1]; exact ntb_k t hg hq
  refine ⟨fun l => ?_, fun k hk lk => ?_, ?_⟩
  · have li : LKR S f c M i := fun j hj => l j (by omega)
    obtain ⟨a1, a2, a3, a4⟩ := a li
    obtain ⟨q1, q2⟩ := l i (by omega)
    have w := (nwr_u sm a3 a4).2 q1
    obtain ⟨y1, y2, y3, y4⟩ := y w
    have z1 : z = 1 := by
      rcases h01 with q | q
      · exact absurd w (hz.2 q)
      · exact q
    rw [if_pos (by omega)] at y1
    refine ⟨y1.trans a1, by omega, by omega, fun j hj => ?_⟩
    rw [a3] at y3 y4
    rw [show ((i : Int)).toNat = i by omega] at y3
    by_cases e : j = i
    · rw [e]; exact y3
    · rw [y4 j (by omega)]; exact a4 j (by omega)
  · by_cases e : k < i
    · obtain ⟨b1, b2⟩ := b k e lk
      exact ⟨fun w => keep _ _ (b1 w) (by decide) (hp k e), fun w v => keep _ _ (b2 w v) (by decide) (hp k e)⟩
    · have ek : k = i := by omega
      subst ek
      obtain ⟨a1, a2, a3, a4⟩ := a lk
      have u := nwr_u sm a3 a4
      have x0 : (NT3 U).1 = 0 := by rw [a1]; exact h0
      exact ⟨fun w => by rw [(n (fun v => w (u.1 v))).1]; exact ntb_1 x0, fun w v => by rw [(y (u.2 w)).1, if_neg (by omega)]; exact ntb_1 x0⟩
  · by_cases w : nwR U (f + i)
    · have t := (y w).2.1; omega
    · have t := (n w).2.1; omega
/-- 10, 11: what the reference notes -/
def RKD (S : sS) (f c M : Int) (n : Nat) (w : Int) (x : Int × Int × Int) : Prop := RLF S f c M n x ∧ (LKR S f c M n → w ≠ -1 → rnR S w 0 = -1 → NTB x 4 (pR S w)) ∧ (LKR S f c M n → (w ≠ -1 → rnR S w 0 ≠ -1) → x.1 = 0)
theorem rkd_n {S U : sS} {f c M nn w : Int} {n : Nat} (h : RLI S U f c M n nn) (h0 : (NT3 S).1 = 0) (hw : w = -1) : RKD S f c M n w (NT3 U) := ⟨h.2.1, fun _ q => absurd hw q, fun l _ => by rw [(h.1 l).1]; exact h0⟩
theorem rkd_y {S U V : sS} {f c M nn w : Int} {n : Nat} (h : RLI S U f c M n nn) (h0 : (NT3 S).1 = 0) (hw : w ≠ -1) (t : NT3 V = if rnR S w 0 = -1 then ntF (NT3 U) 4 (pR S w) else NT3 U) (hp : ∀ k : Nat, k < n → pR S (f + k) < pR S w) : RKD S f c M n w (NT3 V) := by
  refine ⟨fun k hk lk => ?_, fun l _ q => ?_, fun l q => ?_⟩
  · rw [t]
    obtain ⟨a, b⟩ := h.2.1 k hk lk
    exact ⟨fun x => ntb_if (a x) (by decide) (hp k hk), fun x y => ntb_if (b x y) (by decide) (hp k hk)⟩
  · rw [t, if_pos q]
    exact ntb_1 (by rw [(h.1 l).1]; exact h0)
  · rw [t, if_neg (q hw), (h.1 l).1]; exact h0
def tyK (S : sS) : Int := if Xi S 904 70 = 10 ∧ Xi S 904 78 = -2 then 1 else 0
def cK (S : sS) : Int := if Xi S 904 70 = 11 then Xi S 904 49 else if Xi S 904 70 = 10 ∧ Xi S 904 78 = -2 then Xi S 904 18 else Xi S 904 16
def mK (S : sS) : Int := if Xi S 904 70 = 11 then 12 else if Xi S 904 70 = 10 ∧ Xi S 904 78 = -2 then 8 else 16
def wK (S : sS) : Int := if Xi S 904 70 = 10 ∧ Xi S 904 78 = -2 then -1 else Xi S 904 78
/-- places of a LIST are in order, and before w -/
def PLO (S : sS) (f : Int) (n : Nat) (w : Int) : Prop := (∀ k i : Nat, k < i → i < n → pR S (f + k) < pR S (f + i)) ∧ (w ≠ -1 → ∀ k : Nat, k < n → pR S (f + k) < pR S w)
theorem PLO_sm {S P : sS} {f w : Int} {n : Nat} (h : SMR S P) (p : PLO S f n w) : PLO P f n w := ⟨fun k i a b => by rw [pR_sm h, pR_sm h]; exact p.1 k i a b, fun a k b => by rw [pR_sm h, pR_sm h]; exact p.2 a k b⟩
theorem NWR_sm {S P : sS} {f : Int} {i : Nat} (h : SMR S P) : NWR P f i ↔ NWR S f i := by
  unfold NWR
  simp only [nwR0_sm h, alR_sm h]
theorem LKR_sm {S P : sS} {f c M : Int} {n : Nat} (h : SMR S P) : LKR P f c M n ↔ LKR S f c M n := by
  unfold LKR
  simp only [NWR_sm h]
theorem RKD_sm {S P : sS} {f c M w : Int} {n : Nat} {x : Int × Int × Int} (h : SMR S P) (r : RKD P f c M n w x) : RKD S f c M n w x := by
  unfold RKD RLF at r ⊢
  simp only [NWR_sm h, LKR_sm h, pR_sm h, rnR_sm h] at r
  exact r
/-! the reference tells LISTS -/
def TLL (S : sS) (so c f : Int) : Nat → sS → Prop
  | 0, V => SMR S V
  | n + 1, V => ∃ W : sS, TLL S so c f n W ∧ TLW W V S so (c + n) (f + n)
theorem tll_p {S V V' : sS} {so c f : Int} : ∀ {n : Nat}, TLL S so c f n V → SMR V V' → TLL S so c f n V'
  | 0, h, s => h.tr s
  | n + 1, ⟨W, h1, h2⟩, s => ⟨W, h1, TLR_post h2 (fun k j hk => s.2.1 k j (by omega)) s.2.2.2 s.1⟩
theorem tll_s {S V V' : sS} {so c f ix r : Int} {n : Nat} (h : TLL S so c f n V) (t : TLW V V' V so ix r) (hi : ix = c + n) (hr : r = f + n) (w : ∀ j, Xj V 910 j = Xj S 910 j) (u : ∀ j, Xi V 950 j = Xi S 950 j) (v : ∀ j, Xi V 951 j = Xi S 951 j) : TLL S so c f (n + 1) V' := by
  subst hi; subst hr
  exact ⟨V, h, TLW_pre t (fun _ _ _ => rfl) (fun _ => rfl) rfl w u v⟩
/-- 11: what the reference does -/
noncomputable def kdW (S : sS) : Int := if Xi S 904 78 = -1 then -1 else rnR S (Xi S 904 78) 0
def RD11 (S S1 : sS) : Prop := Xi S1 904 49 = Xi S 904 49 + (Xi S 904 72).toNat ∧ TLL S 11 (Xi S 904 49) (Xi S 904 71) (Xi S 904 72).toNat S1 ∧ ARN S S1 942 (Xi S 904 49) (kdW S) (Xi S 904 72).toNat
def ACT1 (S S1 : sS) (k : Int) : Prop := Xi S1 904 49 = Xi S 904 49 + 1 ∧ S1 = uI (uI S 942 (Xi S 904 49).toNat (Int32.ofInt k)) 904 49 (Int32.ofInt (Xi S 904 49 + 1))
theorem act1_arn {S U V : sS} {c v : Int} {n : Nat} (h : ARN S U 942 c v n) (a : ACT1 U V v) (hx : Xi U 904 49 = c + n) (hc : 0 ≤ c) (hv : rg v) : ARN S V 942 c v (n + 1) := by
  have e := a.2
  refine ⟨fun i hi => ?_, fun j hj => ?_⟩
  · by_cases q : i = n
    · rw [q, ← hx, e, Xi_ne (by omega)]; exact Xi_same hv
    · rw [e, Xi_ne (by omega), Xi_ne (by omega)]; exact h.1 i (by omega)
  · rw [e, Xi_ne (by omega), Xi_ne (by omega)]; exact h.2 j hj
theorem kdr_n {S : sS} (h : Xi S 904 78 = -1) : (-1 : Int) = kdW S := by unfold kdW; rw [if_pos h]
theorem kdr_y {S : sS} (h : Xi S 904 78 ≠ -1) : rnR S (Xi S 904 78) 0 = kdW S := by unfold kdW; rw [if_neg h]
theorem rnR_w {A B : sS} {so ix a b c n r s : Int} {S : sS} (t : TLR A B so ix a b c n) (h0 : 0 ≤ Xi A 904 15) (w : ∀ j, Xj B 910 j = Xj A 910 j) (u : ∀ j, Xi B 950 j = Xi A 950 j) (v : ∀ j, Xi B 951 j = Xi A 951 j) (h : rnR S r s ≠ -1) (k : rnR A r s = rnR S r s) : rnR B r s = rnR S r s := (rnR_tl t h0 w u v (by rw [k]; exact h)).trans k
/-- a range is cleared -/
def ZRO (S U : sS) (k : Nat) (a m : Int) : Prop := ∀ j : Nat, ((a ≤ (j : Int) ∧ (j : Int) < a + m) → Xi U k j = 0) ∧ (¬ (a ≤ (j : Int) ∧ (j : Int) < a + m) → Xi U k j = Xi S k j)
theorem zro_0 {S U : sS} {k : Nat} {a : Int} (h : ∀ j, Xi U k j = Xi S k j) : ZRO S U k a 0 := fun j => ⟨fun q => by omega, fun _ => h j⟩
theorem zro_s {S U V : sS} {k : Nat} {a v : Int} (h : ZRO S U k a v) (e : V = uI U k (a + v).toNat (Int32.ofInt 0)) (ha : 0 ≤ a) (hv : 0 ≤ v) : ZRO S V k a (v + 1) := fun j => by
  by_cases q : j = (a + v).toNat
  · exact ⟨fun _ => by rw [q, e]; exact Xi_same (by unfold rg; omega), fun w => by omega⟩
  · have t := h j
    exact ⟨fun w => by rw [e, Xi_ne (by omega)]; exact t.1 (by omega), fun w => by rw [e, Xi_ne (by omega)]; exact t.2 (by omega)⟩
theorem zro_k {S U V : sS} {k : Nat} {a v : Int} (h : ZRO S U k a v) (f : ∀ j, Xi V k j = Xi U k j) : ZRO S V k a v := fun j => ⟨fun q => (f j).trans ((h j).1 q), fun q => (f j).trans ((h j).2 q)⟩
def AKN (S S1 : sS) (p : Int) : Prop := Xi S1 904 16 = Xi S 904 16 + 1 ∧ (Xi S1 917 (Xi S 904 16).toNat = p ∧ ∀ j : Nat, j ≠ (Xi S 904 16).toNat → Xi S1 917 j = Xi S 917 j) ∧ ZRO S S1 929 (12 * Xi S 904 16) 12 ∧ ZRO S S1 933 (12 * Xi S 904 16) 12 ∧ ZRO S S1 926 (24 * Xi S 904 16) 24
theorem kdw_rg {S : sS} (hx : LXR S) (h15 : 0 ≤ Xi S 904 15) : rg (kdW S) := by
  unfold kdW
  have t := rnR_ix (r := Xi S 904 78) (s := 0) hx h15
  split
  · unfold rg; omega
  · unfold rg; omega

theorem kr_in {T : Int → Int} {b : Int} (h : NF7 T b) (hb : b ≤ 5130) : ∀ r : Nat, r ≤ 5140 → ∀ i : Nat, i < cR T r → 0 ≤ kr7 T i ∧ kr7 T i < r ∧ T (kr7 T i) = 100
  | 0, _, i, hi => absurd hi (Nat.not_lt_zero _)
  | r + 1, hr, i, hi => by
    by_cases g : bg7 T (r : Int)
    · have c : cR T (r + 1) = cR T r + 1 := by
        show cR T r + (if bg7 T (r : Int) then 1 else 0) = _
        rw [if_pos g]
      by_cases q : i < cR T r
      · have t := kr_in h hb r (by omega) i q
        exact ⟨t.1, by omega, t.2.2⟩
      · have k := cR_b (r := (r : Int)) h hb (by omega) (by omega) g
        rw [show ((r : Int)).toNat = r by omega] at k
        rw [show i = cR T r by omega, k]
        exact ⟨by omega, by omega, g.1⟩
    · have c : cR T (r + 1) = cR T r := by
        show cR T r + (if bg7 T (r : Int) then 1 else 0) = _
        rw [if_neg g]
        rfl
      have t := kr_in h hb r (by omega) i (by omega)
      exact ⟨t.1, by omega, t.2.2⟩
theorem reF_in {T : Int → Int} : ∀ (n : Nat) (a j : Int), a ≤ j → j < reF T n a → T j = 100
  | 0, a, j, h1, h2 => by
    have t : j < a := h2
    omega
  | n + 1, a, j, h1, h2 => by
    by_cases q : T a = 100
    · have e : reF T (n + 1) a = reF T n (a + 1) := if_pos q
      rw [e] at h2
      by_cases w : j = a
      · rw [w]; exact q
      · exact reF_in n (a + 1) j (by omega) h2
    · have e : reF T (n + 1) a = a := if_neg q
      omega
theorem re_in {T : Int → Int} {a j : Int} (h1 : a ≤ j) (h2 : j < re7 T a) : T j = 100 := reF_in _ _ _ h1 h2
theorem cen_n {P V : sS} {so w a b c : Int} (h : CEN P) (e : ∃ i : Nat, NMI P V i so w a b c) (hs : 0 ≤ so ∧ so ≤ 14) (hw : 0 ≤ w ∧ w ≤ 63) : CEN V := by
  obtain ⟨i, ⟨e1, e2, _⟩, e3, e4⟩ := e
  intro k hk
  by_cases q : k = i
  · rw [q, e1, e2]; exact ⟨hs, hw⟩
  · obtain ⟨f1, f2, _⟩ := e3 k q
    rw [f1, f2]
    exact h k (by rcases e4 with ⟨g, _⟩ | ⟨g, g2, _⟩ <;> omega)
theorem CEN_v {P V : sS} (h : CEN P) (s : SMV P V) : CEN V := fun k hk => by
  rw [s.2.2.1, s.2.2.2.1]
  exact h k (by have t := s.1; omega)
/-- 10: what the class does -/
def ofB (S : sS) : Int := if ty7 S (Xi S 890 3 + 3) = 7 then 1 else 0
def tyB (S : sS) : Int := if ty7 S (Xi S 890 3 + 3) = 7 ∧ ty7 S (Xi S 890 3 + 4) = 20 then 1 else 0
theorem tyb_rg {S : sS} : 0 ≤ tyB S ∧ tyB S ≤ 1 := by unfold tyB; split <;> omega
def r10 (S : sS) : Int := bA (ty7 S) (Xi S 890 3 + 4)
def ab10 (S : sS) : Int := if ofB S = 1 ∧ tyB S = 0 then fnd S 0 (r10 S) (re7 (ty7 S) (r10 S)) else 0
def c10 (S : sS) : Int := Xi S 5 (tyB S).toNat
def TPS (S : sS) (so c : Int) (B : sS) : Nat → sS → Prop
  | 0, V => SMV B V
  | n + 1, V => ∃ W : sS, TPS S so c B n W ∧ NWS S W V so (c + n) (kr7 (ty7 S) n) (re7 (ty7 S) (kr7 (ty7 S) n))
def KN7 (S U : sS) (n : Nat) : Prop := (tyB S = 0 → ARN S U 6 (c10 S) (ab10 S) n ∧ ARN S U 7 (c10 S) 0 n) ∧ (tyB S = 1 → (∀ j, Xi U 6 j = Xi S 6 j) ∧ ∀ j, Xi U 7 j = Xi S 7 j)
def TKN (S S1 : sS) (z : Int) : Prop :=
  TLS S S1 z (c10 S) (16 - 8 * tyB S) (nL S) ∧
  (LOK S (c10 S) (16 - 8 * tyB S) (nL S) → ab10 S = -1 → z = 0 ∧ FTO S S1 4 (r10 S)) ∧
  (LOK S (c10 S) (16 - 8 * tyB S) (nL S) → ab10 S ≠ -1 → z = 1 ∧ Xi S1 876 8 = 0 ∧ (∃ B : sS, TNL S (tyB S) (c10 S) (nL S) B ∧ TPS S (11 + tyB S) (c10 S) B (nL S) S1) ∧ Xi S1 5 (tyB S).toNat = c10 S + nL S ∧ (∀ j, j ≠ (tyB S).toNat → Xi S1 5 j = Xi S 5 j) ∧ KN7 S S1 (nL S))
theorem tkn_1 {S S1 : sS} (h : TLS S S1 0 (c10 S) (16 - 8 * tyB S) (nL S)) (n : ¬ LOK S (c10 S) (16 - 8 * tyB S) (nL S)) : TKN S S1 0 := ⟨h, fun q => absurd q n, fun q => absurd q n⟩
theorem tkn_2 {S S1 : sS} {z : Int} (l : LOK S (c10 S) (16 - 8 * tyB S) (nL S)) (k : ab10 S = -1) (hz : z = 0) (f : FTO S S1 4 (r10 S)) : TKN S S1 z := ⟨tls_y l, fun _ _ => ⟨hz, f⟩, fun _ q => absurd k q⟩
theorem tkn_3 {S S1 : sS} (l : LOK S (c10 S) (16 - 8 * tyB S) (nL S)) (k : ab10 S ≠ -1) (r : Xi S1 876 8 = 0 ∧ (∃ B : sS, TNL S (tyB S) (c10 S) (nL S) B ∧ TPS S (11 + tyB S) (c10 S) B (nL S) S1) ∧ Xi S1 5 (tyB S).toNat = c10 S + nL S ∧ (∀ j, j ≠ (tyB S).toNat → Xi S1 5 j = Xi S 5 j) ∧ KN7 S S1 (nL S)) : TKN S S1 1 := ⟨tls_y l, fun _ q => absurd q k, fun _ _ => ⟨rfl, r⟩⟩
theorem ab_y {S U : sS} {n : Nat} {a b z : Int} (g : LSU S U n) (h1 : ofB S = 1) (h2 : tyB S = 0) (e : r10 S = a) (e2 : re7 (ty7 S) a = b) (v : z = fnd U 0 a b) : z = ab10 S := by
  unfold ab10
  rw [if_pos ⟨h1, h2⟩, v, fnd_eq g.v, e, e2]
theorem ab_n {S : sS} (h : ¬ (ofB S = 1 ∧ tyB S = 0)) : (0 : Int) = ab10 S := by unfold ab10; rw [if_neg h]
theorem kn7_0 {S U : sS} (a : ∀ j, Xi U 6 j = Xi S 6 j) (b : ∀ j, Xi U 7 j = Xi S 7 j) : KN7 S U 0 := ⟨fun _ => ⟨arn_0 a, arn_0 b⟩, fun _ => ⟨a, b⟩⟩
theorem kn7_k {S U V : sS} {n : Nat} (h : KN7 S U n) (a : ∀ j, Xi V 6 j = Xi U 6 j) (b : ∀ j, Xi V 7 j = Xi U 7 j) : KN7 S V n :=
  ⟨fun q => ⟨arn_k (h.1 q).1 a, arn_k (h.1 q).2 b⟩, fun q => ⟨fun j => (a j).trans ((h.2 q).1 j), fun j => (b j).trans ((h.2 q).2 j)⟩⟩
theorem kn7_t {S U V : sS} {n : Nat} (h : KN7 S U n) (ht : tyB S ≠ 0) (a : ∀ j, Xi V 6 j = Xi U 6 j) (b : ∀ j, Xi V 7 j = Xi U 7 j) : KN7 S V (n + 1) :=
  ⟨fun q => absurd q ht, fun q => ⟨fun j => (a j).trans ((h.2 q).1 j), fun j => (b j).trans ((h.2 q).2 j)⟩⟩
theorem kn7_s {S U P V W : sS} {n : Nat} {x y : Int} (h : KN7 S U n) (ht : tyB S = 0) (a : ∀ j, Xi P 6 j = Xi U 6 j) (b : ∀ j, Xi P 7 j = Xi U 7 j) (e1 : V = uI P 6 x.toNat (Int32.ofInt y)) (e2 : W = uI V 7 x.toNat (Int32.ofInt 0)) (hx : x = c10 S + n) (hy : y = ab10 S) (hc : 0 ≤ c10 S) (hr : rg y) : KN7 S W (n + 1) := by
  subst hy
  obtain ⟨h1, h2⟩ := h.1 ht
  refine ⟨fun _ => ⟨?_, ?_⟩, fun q => by omega⟩
  · exact arn_k (arn_s h1 a e1 hx hc hr) (fun j => by rw [e2, Xi_ne (by omega)])
  · exact arn_s h2 (fun j => by rw [e1, Xi_ne (by omega), b]) e2 hx hc (by unfold rg; omega)
theorem tps_s {S W V B : sS} {so c wh a b : Int} {n : Nat} (h : TPS S so c B n W) (o : NWS W W V so wh a b) (k : ∀ j, Xj W 879 j = Xj S 879 j) (ha : a = kr7 (ty7 S) n) (hb : b = re7 (ty7 S) (kr7 (ty7 S) n)) (hw : wh = c + n) : TPS S so c B (n + 1) V := by
  subst ha; subst hb; subst hw
  have q : ∀ i, wSp W (kr7 (ty7 S) n) (re7 (ty7 S) (kr7 (ty7 S) n)) i = wSp S (kr7 (ty7 S) n) (re7 (ty7 S) (kr7 (ty7 S) n)) i := fun i => by unfold wSp; rw [k]
  unfold NWS at o
  rw [q, q, q] at o
  exact ⟨W, h, o⟩
theorem nws_b {S V V1 : sS} {so wh f t : Int} (o : NWS S V V1 so wh f t) : Xi V 1 3 ≤ Xi V1 1 3 ∧ Xi V1 1 3 ≤ Xi V 1 3 + 1 := by
  by_cases q : mnF V (wSp S f t 0) (wSp S f t 1) (wSp S f t 2) = -1
  · exact nmi_c (o.2 q)
  · have e := (o.1 q).1; omega
theorem nws_c {S V V1 : sS} {so wh f t : Int} (o : NWS S V V1 so wh f t) (h : CEN V) (hs : 0 ≤ so ∧ so ≤ 14) (hw : 0 ≤ wh ∧ wh ≤ 63) : CEN V1 := by
  by_cases q : mnF V (wSp S f t 0) (wSp S f t 1) (wSp S f t 2) = -1
  · exact cen_n h (o.2 q) hs hw
  · exact CEN_v h (o.1 q)
/-- the words of RUNS fit -/
def WRB (S : sS) : Prop := ∀ j : Int, ty7 S j = 100 → 0 ≤ Xj S 879 j.toNat ∧ Xj S 879 j.toNat < 150094635296999121
theorem wrb_d {S U : sS} {a : Int} (h : WRB S) (k : ∀ j, Xj U 879 j = Xj S 879 j) : WDB U a (re7 (ty7 S) a) := fun j h1 h2 => by rw [k]; exact h j (re_in h1 h2)
theorem run_len {S : sS} {c M : Int} {N i : Nat} (l : LOK S c M N) (hi : i < N) (hN : N = nL S) (hr : Xi S 876 7 ≤ 5130) (ht : Xi S 890 3 ≤ 5130) : 1 ≤ re7 (ty7 S) (kr7 (ty7 S) i) - kr7 (ty7 S) i ∧ re7 (ty7 S) (kr7 (ty7 S) i) - kr7 (ty7 S) i ≤ 3 := by
  have t := (kr_in (ty_nf hr) (by omega) (Xi S 890 3).toNat (by omega) i (by rw [hN] at hi; exact hi)).2.2
  have u := re7_c.1 t
  exact ⟨by omega, (l i hi).1.2.1⟩
theorem lok_c {S : sS} {c M : Int} {n : Nat} (l : LOK S c M n) (hM : c ≤ M) (h0 : 0 ≤ M) : c + (n : Int) ≤ M := by
  by_cases q : n = 0
  · omega
  · have t := (l (n - 1) (by omega)).2; omega

def md_mo_addAction__p : List rec := [(904, 905, 49, 50), (942, 943, 0, 100000)]
abbrev Q_mo_addAction__p (S : sS) (kind : Int) : pst := fun r S1 => RI S1 ∧ FR md_mo_addAction__p S S1 ∧ (∃ z : Int, r = some (iv z) ∧ (-2147483648 ≤ z ∧ z ≤ 2147483647) ∧ (z = Xi S 904 49) ∧ (ACT1 S S1 kind))
set_option maxRecDepth 100000 in
theorem t_mo_addAction__p {S : sS} (hH : RI S) (kind : Int) (hkind : -2147483648 ≤ kind ∧ kind ≤ 2147483647) (ha : 0 ≤ Xi S 904 49 ∧ Xi S 904 49 ≤ 60) (d : Nat) : Mp lay0 (d + 1) m_mo_addAction [.ref 904, iv kind] S (Q_mo_addAction__p S kind) := by
  refine Mp_R rfl rfl (fun fu => ?_)
  have hF : FR md_mo_addAction__p S S := FR.rf
  have w1 : -2147483648 ≤ Xi S 904 49 ∧ Xi S 904 49 ≤ 2147483647 := Xi_rgI
  refine y_aload_n rfl rfl ?_
  refine y_gfr rfl rfl rfl rfl rfl (hH.r 904 50 942 rfl) ?_
  refine y_aload_n rfl rfl ?_
  refine y_gfi rfl rfl rfl rfl rfl ?_
  refine y_iload_n rfl rfl ?_
  refine y_iastoreP (n := 12) rfl rfl (by unfold rg; omega) (fun w2 w3 => ?_)
  obtain ⟨U1, eU1⟩ : ∃ T : sS, T = uI S 942 (((Xi S 904 49)).toNat) (Int32.ofInt kind) := ⟨_, rfl⟩
  rw [← eU1]
  have hHU1 : RI U1 := by rw [eU1]; exact RI_w hH
  have hFU1 : FR md_mo_addAction__p S U1 := by rw [eU1]; exact FR.wI hF (mdf_i (r := (942, 943, 0, 100000)) (List.mem_of_getElem? (i := 1) rfl) (inR_i (by omega) (by omega) (by omega) (by omega)))
  have w4 : Xi U1 942 (((Xi S 904 49)).toNat) = kind := by rw [eU1]; exact Xi_same (by unfold rg; omega)
  refine y_aload_n rfl rfl ?_
  refine y_dup rfl rfl ?_
  refine y_gfi rfl rfl rfl rfl rfl ?_
  have w5 : (Xi U1 904 49) = (Xi S 904 49) := (show Xi U1 904 49 = Xi S 904 49 from by rw [eU1]; exact Xi_ne (by omega))
  rw [w5]
  refine y_iconst rfl ?_
  refine y_iadd rfl ?_
  refine y_pfi rfl rfl rfl rfl ?_
  obtain ⟨U2, eU2⟩ : ∃ T : sS, T = uI U1 904 49 (Int32.ofInt ((Xi S 904 49) + 1)) := ⟨_, rfl⟩
  rw [← eU2]
  have hHU2 : RI U2 := by rw [eU2]; exact RI_w hHU1
  have hFU2 : FR md_mo_addAction__p S U2 := by rw [eU2]; exact FR.wI hFU1 (mdf_i (r := (904, 905, 49, 50)) (List.mem_of_getElem? (i := 0) rfl) (inR_i (by omega) (by omega) (by omega) (by omega)))
  have w6 : Xi U2 904 49 = ((Xi S 904 49) + 1) := by rw [eU2]; exact Xi_same (by unfold rg; omega)
  refine y_aload_n rfl rfl ?_
  refine y_gfi rfl rfl rfl rfl rfl ?_
  refine y_iconst rfl ?_
  refine y_isub rfl ?_
  refine y_ireturn rfl rfl ?_
  exact ⟨hHU2, hFU2, _, rfl, ⟨by omega, by omega⟩, (by omega), (⟨by omega, by rw [eU2, eU1]⟩)⟩
def md_mo_askKinds__p : List rec := [(904, 905, 104, 105), (904, 905, 105, 106), (904, 905, 106, 107), (904, 905, 108, 109), (966, 967, 0, 100000)]
abbrev Q_mo_askKinds__p (S : sS) : pst := fun r S1 => RI S1 ∧ FR md_mo_askKinds__p S S1 ∧ (r = none ∧ (RKD S (Xi S 904 71) (cK S) (mK S) (Xi S 904 72).toNat (wK S) (NT3 S1)))
set_option maxRecDepth 100000 in
theorem t_mo_askKinds__p {S : sS} (hH : RI S) (hLS : LSP S) (h15 : 0 ≤ Xi S 904 15) (hRB : RBD S) (hz0 : Xi S 904 106 = 0 ∧ Xi S 904 108 = 0) (hf : 0 ≤ Xi S 904 71 ∧ Xi S 904 71 ≤ 2600 ∧ 0 ≤ Xi S 904 72 ∧ Xi S 904 72 ≤ 2600) (hp : PLO S (Xi S 904 71) (Xi S 904 72).toNat (wK S)) (hcb : 0 ≤ Xi S 904 49 ∧ Xi S 904 49 ≤ 100 ∧ 0 ≤ Xi S 904 18 ∧ Xi S 904 18 ≤ 100 ∧ 0 ≤ Xi S 904 16 ∧ Xi S 904 16 ≤ 100) (d : Nat) : Mp lay0 (d + 6) m_mo_askKinds [.ref 904] S (Q_mo_askKinds__p S) := by
  refine Mp_R rfl rfl (fun fu => ?_)
  have hF : FR md_mo_askKinds__p S S := FR.rf
  have w1 : -2147483648 ≤ Xi S 904 106 ∧ Xi S 904 106 ≤ 2147483647 := Xi_rgI
  have w2 : -2147483648 ≤ Xi S 904 108 ∧ Xi S 904 108 ≤ 2147483647 := Xi_rgI
  have w3 : -2147483648 ≤ Xi S 904 15 ∧ Xi S 904 15 ≤ 2147483647 := Xi_rgI
  have w4 : -2147483648 ≤ Xi S 904 16 ∧ Xi S 904 16 ≤ 2147483647 := Xi_rgI
  have w5 : -2147483648 ≤ Xi S 904 18 ∧ Xi S 904 18 ≤ 2147483647 := Xi_rgI
  have w6 : -2147483648 ≤ Xi S 904 49 ∧ Xi S 904 49 ≤ 2147483647 := Xi_rgI
  have w7 : -2147483648 ≤ Xi S 904 70 ∧ Xi S 904 70 ≤ 2147483647 := Xi_rgI
  have w8 : -2147483648 ≤ Xi S 904 71 ∧ Xi S 904 71 ≤ 2147483647 := Xi_rgI
  have w9 : -2147483648 ≤ Xi S 904 72 ∧ Xi S 904 72 ≤ 2147483647 := Xi_rgI
  have w10 : -2147483648 ≤ Xi S 904 78 ∧ Xi S 904 78 ≤ 2147483647 := Xi_rgI
  have C85 : ∀ (n85 : Nat) (_ : n85 ≤ fu) (T1 : sS) (_ : RI T1) (_ : FR md_mo_askKinds__p S T1) (v1 : Int) (v2 : Int) (v3 : Int) (v4 : Int), (0 ≤ v1 ∧ v1 ≤ 1) → (-2147483648 ≤ v2 ∧ v2 ≤ 2147483600) → (0 ≤ v3 ∧ v3 ≤ 24) → (0 ≤ v4 ∧ v4 ≤ 2600) → (v1 = tyK S) → (v3 = mK S) → (0 ≤ v4 ∧ v4 ≤ Xi S 904 72) → (-1 ≤ v2 ∧ v2 ≤ 100 + v4) → (Hid (RLI S T1 (Xi S 904 71) (cK S) (mK S) (v4).toNat v2)) → (0 ≤ Xi T1 904 108) → (Xi T1 904 78 = Xi S 904 78) → (Xi T1 904 70 = Xi S 904 70) → (Xi T1 904 71 = Xi S 904 71) → (Xi T1 904 72 = Xi S 904 72) → Pl n85 lay0 (d + 5) m_mo_askKinds 85 [(0, .ref 904), (1, iv v1), (2, iv v2), (3, iv v3), (4, iv v4)] [] T1 (Q_mo_askKinds__p S) := by
    intro n85
    induction n85 with
    | zero => intros; exact Pl_0
    | succ n85 ih85 =>
      intro hm85 T1 hHT1 hFT1 v1 v2 v3 v4 w11 w12 w13 w14 i85 i3 w15 w16 R85 w17 w18 w19 w20 w21
      have w22 : Xi T1 904 15 = Xi S 904 15 := hFT1.x _ _ rfl
      have w23 : Xi T1 904 16 = Xi S 904 16 := hFT1.x _ _ rfl
      have w24 : Xi T1 904 18 = Xi S 904 18 := hFT1.x _ _ rfl
      have w25 : Xi T1 904 49 = Xi S 904 49 := hFT1.x _ _ rfl
      have w26 : Xi T1 904 69 = Xi S 904 69 := hFT1.x _ _ rfl
      have w27 : Xi T1 904 70 = Xi S 904 70 := hFT1.x _ _ rfl
      have w28 : Xi T1 904 71 = Xi S 904 71 := hFT1.x _ _ rfl
      have w29 : Xi T1 904 72 = Xi S 904 72 := hFT1.x _ _ rfl
      have w30 : Xi T1 904 78 = Xi S 904 78 := hFT1.x _ _ rfl
      have w31 : -2147483648 ≤ Xi T1 904 108 ∧ Xi T1 904 108 ≤ 2147483647 := Xi_rgI
      have w32 : -2147483648 ≤ Xi T1 904 15 ∧ Xi T1 904 15 ≤ 2147483647 := Xi_rgI
      have w33 : -2147483648 ≤ Xi T1 904 16 ∧ Xi T1 904 16 ≤ 2147483647 := Xi_rgI
      have w34 : -2147483648 ≤ Xi T1 904 18 ∧ Xi T1 904 18 ≤ 2147483647 := Xi_rgI
      have w35 : -2147483648 ≤ Xi T1 904 49 ∧ Xi T1 904 49 ≤ 2147483647 := Xi_rgI
      have w36 : -2147483648 ≤ Xi T1 904 70 ∧ Xi T1 904 70 ≤ 2147483647 := Xi_rgI
      have w37 : -2147483648 ≤ Xi T1 904 71 ∧ Xi T1 904 71 ≤ 2147483647 := Xi_rgI
      have w38 : -2147483648 ≤ Xi T1 904 72 ∧ Xi T1 904 72 ≤ 2147483647 := Xi_rgI
      have w39 : -2147483648 ≤ Xi T1 904 78 ∧ Xi T1 904 78 ≤ 2147483647 := Xi_rgI
      refine ys_iload rfl rfl ?_
      refine y_aload_n rfl rfl ?_
      refine y_gfi rfl rfl rfl rfl rfl ?_
      refine y_icmp_ge rfl rfl (by unfold rg; omega) (by unfold rg; omega) (fun w40 => ?_) (fun w41 => ?_)
      · refine y_aload_n rfl rfl ?_
        have R139 : Hid (RLI S T1 (Xi S 904 71) (cK S) (mK S) (Xi S 904 72).toNat v2) := by have t := R85; rw [show v4 = Xi S 904 72 by omega] at t; exact t
        refine y_gfi rfl rfl rfl rfl rfl ?_
        refine y_iconst rfl ?_
        refine y_icmp_eq rfl rfl (by unfold rg; omega) (by unfold rg; omega) (fun w42 => ?_) (fun w43 => ?_)
        · refine y_return rfl rfl ?_
          exact ⟨hHT1, hFT1, rfl, (by first | (have t := K156; exact rkd_y R139.o hz0.1 N156 n156.o (hp.2 N156)) | exact rkd_n R139.o hz0.1 (by unfold wK; first | (have t := K151; exact absurd rfl id) | (have t := K147; rw [if_pos (by have u := i85; unfold tyK at u; by_cases q : Xi S 904 70 = 10 ∧ Xi S 904 78 = -2; exact q; (rw [if_neg q] at u; omega))]) | (rw [if_neg (by omega)]; omega)))⟩
        · refine y_iload_n rfl rfl ?_
          have K147 : True := trivial
          refine y_if_ne rfl rfl (by unfold rg; omega) (fun w44 => ?_) (fun w45 => ?_)
          · refine y_return rfl rfl ?_
            exact ⟨hHT1, hFT1, rfl, (by first | (have t := K156; exact rkd_y R139.o hz0.1 N156 n156.o (hp.2 N156)) | exact rkd_n R139.o hz0.1 (by unfold wK; first | (have t := K151; exact absurd rfl id) | (have t := K147; rw [if_pos (by have u := i85; unfold tyK at u; by_cases q : Xi S 904 70 = 10 ∧ Xi S 904 78 = -2; exact q; (rw [if_neg q] at u; omega))]) | (rw [if_neg (by omega)]; omega)))⟩
          · refine y_aload_n rfl rfl ?_
            have K151 : True := trivial
            have W151 : wK S = Xi S 904 78 := by unfold wK; rw [if_neg (fun q => by have u := i85; unfold tyK at u; rw [if_pos q] at u; omega)]
            have N156 : wK S ≠ -1 := by omega
            refine y_aload_n rfl rfl ?_
            refine y_gfi rfl rfl rfl rfl rfl ?_
            refine y_callV rfl rfl rfl (t_mo_kindOfRun__p hHT1 (Xi T1 904 78) ⟨by omega, by omega⟩ (by first | assumption | exact (LSP_FR hFT1 rfl rfl (by assumption : LSP S))) (by first | assumption | omega) (by first | assumption | exact (RBD_FR hFT1 rfl (by assumption : RBD S))) _) ?_
            rintro _ T2 ⟨hHT2, w48, z47, rfl, w47, w46, nt156_⟩
            have hFT2 : FR md_mo_askKinds__p S T2 := FR.tr hFT1 w48 rfl
            show Pl _ _ _ _ _ _ [iv z47] _ _
            have K156 : True := trivial
            have n156 : Hid (NT3 T2 = if rnR S (wK S) 0 = -1 then ntF (NT3 T1) 4 (pR S (wK S)) else NT3 T1) := by have t := nt156_; rw [rnR_FR hFT1 rfl rfl, (hFT1.cx 908 rfl _).1, (hFT1.cx 950 rfl _).1, show Xi T1 904 78 = Xi S 904 78 by omega, ← W151] at t; exact t
            refine y_pop rfl rfl ?_
            refine y_return rfl rfl ?_
            have w49 : Xi T2 904 108 = Xi T1 904 108 := (show Xi T2 904 108 = Xi T1 904 108 from w48.x _ _ rfl)
            have w50 : Xi T2 904 15 = Xi T1 904 15 := (show Xi T2 904 15 = Xi T1 904 15 from w48.x _ _ rfl)
            have w51 : Xi T2 904 16 = Xi T1 904 16 := (show Xi T2 904 16 = Xi T1 904 16 from w48.x _ _ rfl)
            have w52 : Xi T2 904 18 = Xi T1 904 18 := (show Xi T2 904 18 = Xi T1 904 18 from w48.x _ _ rfl)
            have w53 : Xi T2 904 49 = Xi T1 904 49 := (show Xi T2 904 49 = Xi T1 904 49 from w48.x _ _ rfl)
            have w54 : Xi T2 904 70 = Xi T1 904 70 := (show Xi T2 904 70 = Xi T1 904 70 from w48.x _ _ rfl)
            have w55 : Xi T2 904 71 = Xi T1 904 71 := (show Xi T2 904 71 = Xi T1 904 71 from w48.x _ _ rfl)
            have w56 : Xi T2 904 72 = Xi T1 904 72 := (show Xi T2 904 72 = Xi T1 904 72 from w48.x _ _ rfl)
            have w57 : Xi T2 904 78 = Xi T1 904 78 := (show Xi T2 904 78 = Xi T1 904 78 from w48.x _ _ rfl)
            exact ⟨hHT2, hFT2, rfl, (by first | (have t := K156; exact rkd_y R139.o hz0.1 N156 n156.o (hp.2 N156)) | exact rkd_n R139.o hz0.1 (by unfold wK; first | (have t := K151; exact absurd rfl id) | (have t := K147; rw [if_pos (by have u := i85; unfold tyK at u; by_cases q : Xi S 904 70 = 10 ∧ Xi S 904 78 = -2; exact q; (rw [if_neg q] at u; omega))]) | (rw [if_neg (by omega)]; omega)))⟩
      · refine y_aload_n rfl rfl ?_
        refine y_aload_n rfl rfl ?_
        refine y_gfi rfl rfl rfl rfl rfl ?_
        refine y_iload rfl rfl ?_
        refine y_iadd rfl ?_
        refine y_callV rfl rfl rfl (t_mo_isNew__p hHT1 ((Xi T1 904 71) + v4) ⟨by omega, by omega⟩ (by first | assumption | exact (LSP_FR hFT1 rfl rfl (by assumption : LSP S))) (by first | assumption | omega) (by first | assumption | exact (RBD_FR hFT1 rfl (by assumption : RBD S))) (by first | assumption | omega) _) ?_
        rintro _ _ ⟨rfl, z58, rfl, w58, f102⟩
        show Pl _ _ _ _ _ _ [iv z58] _ _
        have f102_ := Hid.i f102
        clear f102
        refine y_istore rfl rfl rfl ?_
        refine y_aload_n rfl rfl ?_
        refine y_aload_n rfl rfl ?_
        refine y_gfi rfl rfl rfl rfl rfl ?_
        refine y_iload rfl rfl ?_
        refine y_iadd rfl ?_
        refine y_iload_n rfl rfl ?_
        refine y_iload_n rfl rfl ?_
        refine y_callV rfl rfl rfl (t_mo_mustBeNew__p hHT1 ((Xi T1 904 71) + v4) v2 v3 ⟨by omega, by omega⟩ ⟨by omega, by omega⟩ ⟨by omega, by omega⟩ (by first | assumption | exact (LSP_FR hFT1 rfl rfl (by assumption : LSP S))) (by first | assumption | omega) (by first | assumption | exact (RBD_FR hFT1 rfl (by assumption : RBD S))) (by first | assumption | omega) _) ?_
        rintro _ T3 ⟨hHT3, w60, rfl, y117, m117⟩
        have hFT3 : FR md_mo_askKinds__p S T3 := FR.tr hFT1 w60 rfl
        show Pl _ _ _ _ _ _ [] _ _
        have K117 : True := trivial
        have y117_ := Hid.i y117
        have m117_ := Hid.i m117
        clear y117 m117
        have S117 : Hid (SMR S T1) := SMR_FR hFT1 rfl rfl
        have Q117 : Hid (∀ z : Int, z = z58 → RLI S T3 (Xi S 904 71) (cK S) (mK S) (v4.toNat + 1) (v2 + z)) := fun z hz => rli_s (z := z) (r := Xi S 904 71 + v4) R85.o (by have t := y117_.o; rw [show Xi T1 904 71 = Xi S 904 71 by omega, (hFT1.cx 908 rfl _).1, (hFT1.cx 950 rfl _).1, i3] at t; exact t) (by have t := m117_.o; rw [show Xi T1 904 71 = Xi S 904 71 by omega, (hFT1.cx 908 rfl _).1, (hFT1.cx 950 rfl _).1] at t; exact t) (by rw [hz]; have t := f102_.o; rw [show Xi T1 904 71 = Xi S 904 71 by omega] at t; exact t) (by omega) (by omega) S117.o (by unfold pR; rw [show Xi S 904 71 + v4 = Xi S 904 71 + ((v4.toNat : Nat) : Int) by omega]) (fun k hk => hp.1 k v4.toNat hk (by omega)) hz0.1
        have g117 : 0 ≤ Xi T3 904 108 := (Q117.o _ rfl).2.2
        refine y_iload_n rfl rfl ?_
        refine y_iload rfl rfl ?_
        refine y_if_eq rfl rfl (by unfold rg; omega) (fun w61 => ?_) (fun w62 => ?_)
        · refine y_iconst rfl ?_
          refine y_iadd rfl ?_
          refine y_istore_n rfl rfl rfl ?_
          refine y_iinc rfl rfl rfl rfl ?_
          refine y_goto rfl rfl ?_
          have w63 : Xi T3 904 15 = Xi T1 904 15 := (show Xi T3 904 15 = Xi T1 904 15 from w60.x _ _ rfl)
          have w64 : Xi T3 904 16 = Xi T1 904 16 := (show Xi T3 904 16 = Xi T1 904 16 from w60.x _ _ rfl)
          have w65 : Xi T3 904 18 = Xi T1 904 18 := (show Xi T3 904 18 = Xi T1 904 18 from w60.x _ _ rfl)
          have w66 : Xi T3 904 49 = Xi T1 904 49 := (show Xi T3 904 49 = Xi T1 904 49 from w60.x _ _ rfl)
          have w67 : Xi T3 904 70 = Xi T1 904 70 := (show Xi T3 904 70 = Xi T1 904 70 from w60.x _ _ rfl)
          have w68 : Xi T3 904 71 = Xi T1 904 71 := (show Xi T3 904 71 = Xi T1 904 71 from w60.x _ _ rfl)
          have w69 : Xi T3 904 72 = Xi T1 904 72 := (show Xi T3 904 72 = Xi T1 904 72 from w60.x _ _ rfl)
          have w70 : Xi T3 904 78 = Xi T1 904 78 := (show Xi T3 904 78 = Xi T1 904 78 from w60.x _ _ rfl)
          exact Pl_weak (ih85 (by omega) T3 hHT3 hFT3 (v1) ((v2 + 0)) (v3) ((v4 + 1)) (by omega) (by omega) (by omega) (by omega) (by first | exact i85 | (unfold tyK; first | (rw [if_pos (by omega)]) | (rw [if_neg (by omega)]))) (by first | exact i3 | (unfold mK; first | (rw [if_pos (by omega)]) | (rw [if_neg (by omega), if_pos (by omega)]) | (rw [if_neg (by omega), if_neg (by omega)]))) (by omega) (by omega) (by first | (have t := K117; rw [show (v4 + 1).toNat = v4.toNat + 1 by omega]; exact Q117.o _ (by omega)) | exact rli_0 rfl (by unfold cK; first | (rw [if_pos (by omega)]) | (rw [if_neg (by omega), if_pos (by omega)]) | (rw [if_neg (by omega), if_neg (by omega)])) hz0.2) (by omega) (by omega) (by omega) (by omega) (by omega)) (by omega) (And.intro rfl (And.intro rfl (And.intro rfl (And.intro rfl (And.intro rfl (True.intro))))))
        · refine y_iconst rfl ?_
          refine y_goto rfl rfl ?_
          refine y_iadd rfl ?_
          refine y_istore_n rfl rfl rfl ?_
          refine y_iinc rfl rfl rfl rfl ?_
          refine y_goto rfl rfl ?_
          have w71 : Xi T3 904 15 = Xi T1 904 15 := (show Xi T3 904 15 = Xi T1 904 15 from w60.x _ _ rfl)
          have w72 : Xi T3 904 16 = Xi T1 904 16 := (show Xi T3 904 16 = Xi T1 904 16 from w60.x _ _ rfl)
          have w73 : Xi T3 904 18 = Xi T1 904 18 := (show Xi T3 904 18 = Xi T1 904 18 from w60.x _ _ rfl)
          have w74 : Xi T3 904 49 = Xi T1 904 49 := (show Xi T3 904 49 = Xi T1 904 49 from w60.x _ _ rfl)
          have w75 : Xi T3 904 70 = Xi T1 904 70 := (show Xi T3 904 70 = Xi T1 904 70 from w60.x _ _ rfl)
          have w76 : Xi T3 904 71 = Xi T1 904 71 := (show Xi T3 904 71 = Xi T1 904 71 from w60.x _ _ rfl)
          have w77 : Xi T3 904 72 = Xi T1 904 72 := (show Xi T3 904 72 = Xi T1 904 72 from w60.x _ _ rfl)
          have w78 : Xi T3 904 78 = Xi T1 904 78 := (show Xi T3 904 78 = Xi T1 904 78 from w60.x _ _ rfl)
          exact Pl_weak (ih85 (by omega) T3 hHT3 hFT3 (v1) ((v2 + 1)) (v3) ((v4 + 1)) (by omega) (by omega) (by omega) (by omega) (by first | exact i85 | (unfold tyK; first | (rw [if_pos (by omega)]) | (rw [if_neg (by omega)]))) (by first | exact i3 | (unfold mK; first | (rw [if_pos (by omega)]) | (rw [if_neg (by omega), if_pos (by omega)]) | (rw [if_neg (by omega), if_neg (by omega)]))) (by omega) (by omega) (by first | (have t := K117; rw [show (v4 + 1).toNat = v4.toNat + 1 by omega]; exact Q117.o _ (by omega)) | exact rli_0 rfl (by unfold cK; first | (rw [if_pos (by omega)]) | (rw [if_neg (by omega), if_pos (by omega)]) | (rw [if_neg (by omega), if_neg (by omega)])) hz0.2) (by omega) (by omega) (by omega) (by omega) (by omega)) (by omega) (And.intro rfl (And.intro rfl (And.intro rfl (And.intro rfl (And.intro rfl (True.intro))))))
  refine y_aload_n rfl rfl ?_
  refine y_gfi rfl rfl rfl rfl rfl ?_
  refine y_bipush rfl rfl ?_
  refine y_icmp_ne rfl rfl (by unfold rg; omega) (by unfold rg; omega) (fun w79 => ?_) (fun w80 => ?_)
  · refine y_iconst rfl ?_
    refine y_istore_n rfl rfl rfl ?_
    refine y_aload_n rfl rfl ?_
    refine y_gfi rfl rfl rfl rfl rfl ?_
    refine y_bipush rfl rfl ?_
    refine y_icmp_ne rfl rfl (by unfold rg; omega) (by unfold rg; omega) (fun w81 => ?_) (fun w82 => ?_)
    · refine y_iload_n rfl rfl ?_
      refine y_if_eq rfl rfl (by unfold rg; omega) (fun w83 => ?_) (fun w84 => absurd w84 (by omega))
      · refine y_aload_n rfl rfl ?_
        refine y_gfi rfl rfl rfl rfl rfl ?_
        refine y_istore_n rfl rfl rfl ?_
        refine y_aload_n rfl rfl ?_
        refine y_gfi rfl rfl rfl rfl rfl ?_
        refine y_bipush rfl rfl ?_
        refine y_icmp_ne rfl rfl (by unfold rg; omega) (by unfold rg; omega) (fun w85 => ?_) (fun w86 => ?_)
        · refine y_iload_n rfl rfl ?_
          refine y_if_eq rfl rfl (by unfold rg; omega) (fun w87 => ?_) (fun w88 => absurd w88 (by omega))
          · refine y_bipush rfl rfl ?_
            refine y_istore_n rfl rfl rfl ?_
            refine y_iconst rfl ?_
            refine y_istore rfl rfl rfl ?_
            exact Pl_weak (C85 fu (by omega) S hH hF (0) ((Xi S 904 16)) (16) (0) (by omega) (by omega) (by omega) (by omega) (by first | exact i85 | (unfold tyK; first | (rw [if_pos (by omega)]) | (rw [if_neg (by omega)]))) (by first | exact i3 | (unfold mK; first | (rw [if_pos (by omega)]) | (rw [if_neg (by omega), if_pos (by omega)]) | (rw [if_neg (by omega), if_neg (by omega)]))) (by omega) (by omega) (by first | (have t := K117; rw [show (v4 + 1).toNat = v4.toNat + 1 by omega]; exact Q117.o _ (by omega)) | exact rli_0 rfl (by unfold cK; first | (rw [if_pos (by omega)]) | (rw [if_neg (by omega), if_pos (by omega)]) | (rw [if_neg (by omega), if_neg (by omega)])) hz0.2) (by omega) (by omega) (by omega) (by omega) (by omega)) (by omega) (And.intro rfl (And.intro rfl (And.intro rfl (And.intro rfl (And.intro rfl (True.intro))))))
        · exfalso; omega
    · refine y_aload_n rfl rfl ?_
      refine y_gfi rfl rfl rfl rfl rfl ?_
      refine y_goto rfl rfl ?_
      refine y_istore_n rfl rfl rfl ?_
      refine y_aload_n rfl rfl ?_
      refine y_gfi rfl rfl rfl rfl rfl ?_
      refine y_bipush rfl rfl ?_
      refine y_icmp_ne rfl rfl (by unfold rg; omega) (by unfold rg; omega) (fun w89 => ?_) (fun w90 => ?_)
      · exfalso; omega
      · refine y_bipush rfl rfl ?_
        refine y_goto rfl rfl ?_
        refine y_istore_n rfl rfl rfl ?_
        refine y_iconst rfl ?_
        refine y_istore rfl rfl rfl ?_
        exact Pl_weak (C85 fu (by omega) S hH hF (0) ((Xi S 904 49)) (12) (0) (by omega) (by omega) (by omega) (by omega) (by first | exact i85 | (unfold tyK; first | (rw [if_pos (by omega)]) | (rw [if_neg (by omega)]))) (by first | exact i3 | (unfold mK; first | (rw [if_pos (by omega)]) | (rw [if_neg (by omega), if_pos (by omega)]) | (rw [if_neg (by omega), if_neg (by omega)]))) (by omega) (by omega) (by first | (have t := K117; rw [show (v4 + 1).toNat = v4.toNat + 1 by omega]; exact Q117.o _ (by omega)) | exact rli_0 rfl (by unfold cK; first | (rw [if_pos (by omega)]) | (rw [if_neg (by omega), if_pos (by omega)]) | (rw [if_neg (by omega), if_neg (by omega)])) hz0.2) (by omega) (by omega) (by omega) (by omega) (by omega)) (by omega) (And.intro rfl (And.intro rfl (And.intro rfl (And.intro rfl (And.intro rfl (True.intro))))))
  · refine y_aload_n rfl rfl ?_
    refine y_gfi rfl rfl rfl rfl rfl ?_
    refine y_bipush rfl rfl ?_
    refine y_icmp_ne rfl rfl (by unfold rg; omega) (by unfold rg; omega) (fun w91 => ?_) (fun w92 => ?_)
    · refine y_iconst rfl ?_
      refine y_istore_n rfl rfl rfl ?_
      refine y_aload_n rfl rfl ?_
      refine y_gfi rfl rfl rfl rfl rfl ?_
      refine y_bipush rfl rfl ?_
      refine y_icmp_ne rfl rfl (by unfold rg; omega) (by unfold rg; omega) (fun w93 => ?_) (fun w94 => ?_)
      · refine y_iload_n rfl rfl ?_
        refine y_if_eq rfl rfl (by unfold rg; omega) (fun w95 => ?_) (fun w96 => absurd w96 (by omega))
        · refine y_aload_n rfl rfl ?_
          refine y_gfi rfl rfl rfl rfl rfl ?_
          refine y_istore_n rfl rfl rfl ?_
          refine y_aload_n rfl rfl ?_
          refine y_gfi rfl rfl rfl rfl rfl ?_
          refine y_bipush rfl rfl ?_
          refine y_icmp_ne rfl rfl (by unfold rg; omega) (by unfold rg; omega) (fun w97 => ?_) (fun w98 => ?_)
          · refine y_iload_n rfl rfl ?_
            refine y_if_eq rfl rfl (by unfold rg; omega) (fun w99 => ?_) (fun w100 => absurd w100 (by omega))
            · refine y_bipush rfl rfl ?_
              refine y_istore_n rfl rfl rfl ?_
              refine y_iconst rfl ?_
              refine y_istore rfl rfl rfl ?_
              exact Pl_weak (C85 fu (by omega) S hH hF (0) ((Xi S 904 16)) (16) (0) (by omega) (by omega) (by omega) (by omega) (by first | exact i85 | (unfold tyK; first | (rw [if_pos (by omega)]) | (rw [if_neg (by omega)]))) (by first | exact i3 | (unfold mK; first | (rw [if_pos (by omega)]) | (rw [if_neg (by omega), if_pos (by omega)]) | (rw [if_neg (by omega), if_neg (by omega)]))) (by omega) (by omega) (by first | (have t := K117; rw [show (v4 + 1).toNat = v4.toNat + 1 by omega]; exact Q117.o _ (by omega)) | exact rli_0 rfl (by unfold cK; first | (rw [if_pos (by omega)]) | (rw [if_neg (by omega), if_pos (by omega)]) | (rw [if_neg (by omega), if_neg (by omega)])) hz0.2) (by omega) (by omega) (by omega) (by omega) (by omega)) (by omega) (And.intro rfl (And.intro rfl (And.intro rfl (And.intro rfl (And.intro rfl (True.intro))))))
          · exfalso; omega
      · exfalso; omega
    · refine y_iconst rfl ?_
      refine y_goto rfl rfl ?_
      refine y_istore_n rfl rfl rfl ?_
      refine y_aload_n rfl rfl ?_
      refine y_gfi rfl rfl rfl rfl rfl ?_
      refine y_bipush rfl rfl ?_
      refine y_icmp_ne rfl rfl (by unfold rg; omega) (by unfold rg; omega) (fun w101 => ?_) (fun w102 => ?_)
      · refine y_iload_n rfl rfl ?_
        refine y_if_eq rfl rfl (by unfold rg; omega) (fun w103 => absurd w103 (by omega)) (fun w104 => ?_)
        · refine y_aload_n rfl rfl ?_
          refine y_gfi rfl rfl rfl rfl rfl ?_
          refine y_goto rfl rfl ?_
          refine y_istore_n rfl rfl rfl ?_
          refine y_aload_n rfl rfl ?_
          refine y_gfi rfl rfl rfl rfl rfl ?_
          refine y_bipush rfl rfl ?_
          refine y_icmp_ne rfl rfl (by unfold rg; omega) (by unfold rg; omega) (fun w105 => ?_) (fun w106 => ?_)
          · refine y_iload_n rfl rfl ?_
            refine y_if_eq rfl rfl (by unfold rg; omega) (fun w107 => absurd w107 (by omega)) (fun w108 => ?_)
            · refine y_bipush rfl rfl ?_
              refine y_goto rfl rfl ?_
              refine y_istore_n rfl rfl rfl ?_
              refine y_iconst rfl ?_
              refine y_istore rfl rfl rfl ?_
              exact Pl_weak (C85 fu (by omega) S hH hF (1) ((Xi S 904 18)) (8) (0) (by omega) (by omega) (by omega) (by omega) (by first | exact i85 | (unfold tyK; first | (rw [if_pos (by omega)]) | (rw [if_neg (by omega)]))) (by first | exact i3 | (unfold mK; first | (rw [if_pos (by omega)]) | (rw [if_neg (by omega), if_pos (by omega)]) | (rw [if_neg (by omega), if_neg (by omega)]))) (by omega) (by omega) (by first | (have t := K117; rw [show (v4 + 1).toNat = v4.toNat + 1 by omega]; exact Q117.o _ (by omega)) | exact rli_0 rfl (by unfold cK; first | (rw [if_pos (by omega)]) | (rw [if_neg (by omega), if_pos (by omega)]) | (rw [if_neg (by omega), if_neg (by omega)])) hz0.2) (by omega) (by omega) (by omega) (by omega) (by omega)) (by omega) (And.intro rfl (And.intro rfl (And.intro rfl (And.intro rfl (And.intro rfl (True.intro))))))
          · exfalso; omega
      · exfalso; omega
def md_mo_asked__10 : List rec := [(904, 905, 64, 65), (904, 905, 104, 105), (904, 905, 105, 106), (904, 905, 106, 107), (904, 905, 108, 109), (904, 905, 109, 110), (904, 905, 110, 111), (904, 905, 112, 113), (904, 905, 113, 114), (904, 905, 115, 116), (904, 905, 116, 117), (904, 905, 117, 118), (904, 905, 125, 126), (904, 905, 128, 129), (904, 905, 129, 130), (904, 905, 130, 131), (904, 905, 142, 143), (904, 905, 144, 145), (904, 905, 146, 147), (904, 905, 147, 148), (904, 905, 150, 151), (904, 905, 151, 152), (904, 905, 153, 154), (904, 905, 154, 155), (904, 905, 156, 157), (904, 905, 157, 158), (904, 905, 158, 159), (904, 905, 160, 161), (966, 967, 0, 100000), (967, 968, 0, 100000), (968, 969, 0, 100000), (969, 970, 0, 100000), (970, 971, 0, 100000), (971, 972, 0, 100000), (972, 973, 0, 100000), (973, 974, 0, 100000), (974, 975, 0, 100000), (975, 976, 0, 100000), (976, 977, 0, 100000), (977, 978, 0, 100000), (978, 979, 0, 100000), (979, 980, 0, 100000), (980, 981, 0, 100000), (981, 982, 0, 100000), (982, 983, 0, 100000), (983, 984, 0, 100000), (984, 985, 0, 100000), (985, 986, 0, 100000), (986, 987, 0, 100000), (987, 988, 0, 100000), (988, 989, 0, 100000), (989, 990, 0, 100000), (990, 991, 0, 100000), (991, 992, 0, 100000), (992, 993, 0, 100000), (993, 994, 0, 100000), (994, 995, 0, 100000)]
abbrev Q_mo_asked__10 (S : sS) (first : Int) : pst := fun r S1 => RI S1 ∧ FR md_mo_asked__10 S S1 ∧ (r = none ∧ (RKD S (Xi S 904 71) (cK S) (mK S) (Xi S 904 72).toNat (wK S) (NT3 S1)))
set_option maxRecDepth 100000 in
theorem t_mo_asked__10 {S : sS} (hH : RI S) (first : Int) (hfirst : 0 ≤ first ∧ first ≤ 5001) (hLS : LSP S) (h15 : 0 ≤ Xi S 904 15) (hRB : RBD S) (hs : Xi S 904 70 = 10) (hf : 0 ≤ Xi S 904 71 ∧ Xi S 904 71 ≤ 2600 ∧ 0 ≤ Xi S 904 72 ∧ Xi S 904 72 ≤ 2600) (hp : PLO S (Xi S 904 71) (Xi S 904 72).toNat (wK S)) (hcb : 0 ≤ Xi S 904 49 ∧ Xi S 904 49 ≤ 100 ∧ 0 ≤ Xi S 904 18 ∧ Xi S 904 18 ≤ 100 ∧ 0 ≤ Xi S 904 16 ∧ Xi S 904 16 ≤ 100) (d : Nat) : Mp lay0 (d + 13) m_mo_asked [.ref 904, iv first] S (Q_mo_asked__10 S first) := by
  refine Mp_R rfl rfl (fun fu => ?_)
  have hF : FR md_mo_asked__10 S S := FR.rf
  have w1 : -2147483648 ≤ Xi S 904 104 ∧ Xi S 904 104 ≤ 2147483647 := Xi_rgI
  have w2 : -2147483648 ≤ Xi S 904 105 ∧ Xi S 904 105 ≤ 2147483647 := Xi_rgI
  have w3 : -2147483648 ≤ Xi S 904 106 ∧ Xi S 904 106 ≤ 2147483647 := Xi_rgI
  have w4 : -2147483648 ≤ Xi S 904 108 ∧ Xi S 904 108 ≤ 2147483647 := Xi_rgI
  have w5 : -2147483648 ≤ Xi S 904 15 ∧ Xi S 904 15 ≤ 2147483647 := Xi_rgI
  have w6 : -2147483648 ≤ Xi S 904 16 ∧ Xi S 904 16 ≤ 2147483647 := Xi_rgI
  have w7 : -2147483648 ≤ Xi S 904 18 ∧ Xi S 904 18 ≤ 2147483647 := Xi_rgI
  have w8 : -2147483648 ≤ Xi S 904 49 ∧ Xi S 904 49 ≤ 2147483647 := Xi_rgI
  have w9 : -2147483648 ≤ Xi S 904 70 ∧ Xi S 904 70 ≤ 2147483647 := Xi_rgI
  have w10 : -2147483648 ≤ Xi S 904 71 ∧ Xi S 904 71 ≤ 2147483647 := Xi_rgI
  have w11 : -2147483648 ≤ Xi S 904 72 ∧ Xi S 904 72 ≤ 2147483647 := Xi_rgI
  have w12 : -2147483648 ≤ Xi S 904 78 ∧ Xi S 904 78 ≤ 2147483647 := Xi_rgI
  refine y_aload_n rfl rfl ?_
  refine y_iconst rfl ?_
  refine y_pfi rfl rfl rfl rfl ?_
  obtain ⟨U1, eU1⟩ : ∃ T : sS, T = uI S 904 106 (Int32.ofInt 0) := ⟨_, rfl⟩
  rw [← eU1]
  have hHU1 : RI U1 := by rw [eU1]; exact RI_w hH
  have hFU1 : FR md_mo_asked__10 S U1 := by rw [eU1]; exact FR.wI hF (mdf_i (r := (904, 905, 106, 107)) (List.mem_of_getElem? (i := 3) rfl) (inR_i (by omega) (by omega) (by omega) (by omega)))
  have w13 : Xi U1 904 106 = 0 := by rw [eU1]; exact Xi_same (by unfold rg; omega)
  refine y_aload_n rfl rfl ?_
  refine y_iconst rfl ?_
  refine y_pfi rfl rfl rfl rfl ?_
  obtain ⟨U2, eU2⟩ : ∃ T : sS, T = uI U1 904 108 (Int32.ofInt 0) := ⟨_, rfl⟩
  rw [← eU2]
  have hHU2 : RI U2 := by rw [eU2]; exact RI_w hHU1
  have hFU2 : FR md_mo_asked__10 S U2 := by rw [eU2]; exact FR.wI hFU1 (mdf_i (r := (904, 905, 108, 109)) (List.mem_of_getElem? (i := 4) rfl) (inR_i (by omega) (by omega) (by omega) (by omega)))
  have w14 : Xi U2 904 108 = 0 := by rw [eU2]; exact Xi_same (by unfold rg; omega)
  refine y_aload_n rfl rfl ?_
  refine y_iconst rfl ?_
  refine y_pfi rfl rfl rfl rfl ?_
  obtain ⟨U3, eU3⟩ : ∃ T : sS, T = uI U2 904 115 (Int32.ofInt (-1)) := ⟨_, rfl⟩
  rw [← eU3]
  have hHU3 : RI U3 := by rw [eU3]; exact RI_w hHU2
  have hFU3 : FR md_mo_asked__10 S U3 := by rw [eU3]; exact FR.wI hFU2 (mdf_i (r := (904, 905, 115, 116)) (List.mem_of_getElem? (i := 9) rfl) (inR_i (by omega) (by omega) (by omega) (by omega)))
  have w15 : Xi U3 904 115 = (-1) := by rw [eU3]; exact Xi_same (by unfold rg; omega)
  refine y_aload_n rfl rfl ?_
  refine y_iconst rfl ?_
  refine y_pfi rfl rfl rfl rfl ?_
  obtain ⟨U4, eU4⟩ : ∃ T : sS, T = uI U3 904 116 (Int32.ofInt (-1)) := ⟨_, rfl⟩
  rw [← eU4]
  have hHU4 : RI U4 := by rw [eU4]; exact RI_w hHU3
  have hFU4 : FR md_mo_asked__10 S U4 := by rw [eU4]; exact FR.wI hFU3 (mdf_i (r := (904, 905, 116, 117)) (List.mem_of_getElem? (i := 10) rfl) (inR_i (by omega) (by omega) (by omega) (by omega)))
  have w16 : Xi U4 904 116 = (-1) := by rw [eU4]; exact Xi_same (by unfold rg; omega)
  refine y_aload_n rfl rfl ?_
  refine y_gfi rfl rfl rfl rfl rfl ?_
  have w17 : (Xi U4 904 70) = (Xi S 904 70) := (show Xi U4 904 70 = Xi U3 904 70 from by rw [eU4]; exact Xi_ne (by omega)).trans ( (show Xi U3 904 70 = Xi U2 904 70 from by rw [eU3]; exact Xi_ne (by omega)).trans ( (show Xi U2 904 70 = Xi U1 904 70 from by rw [eU2]; exact Xi_ne (by omega)).trans ((show Xi U1 904 70 = Xi S 904 70 from by rw [eU1]; exact Xi_ne (by omega)))))
  rw [w17]
  refine y_tsw rfl rfl rfl rfl (by unfold rg; omega) (fun w18 => ?_) (fun ii tt hii w18 => ?_)
  · exfalso; omega
  · match ii, hii with
    | 0, hii =>
      cases hii
      have w19 : (Xi S 904 70) = 0 := by simpa using w18
      exfalso; omega
    | 1, hii =>
      cases hii
      have w20 : (Xi S 904 70) = 1 := by simpa using w18
      exfalso; omega
    | 2, hii =>
      cases hii
      have w21 : (Xi S 904 70) = 2 := by simpa using w18
      exfalso; omega
    | 3, hii =>
      cases hii
      have w22 : (Xi S 904 70) = 3 := by simpa using w18
      exfalso; omega
    | 4, hii =>
      cases hii
      have w23 : (Xi S 904 70) = 4 := by simpa using w18
      exfalso; omega
    | 5, hii =>
      cases hii
      have w24 : (Xi S 904 70) = 5 := by simpa using w18
      exfalso; omega
    | 6, hii =>
      cases hii
      have w25 : (Xi S 904 70) = 6 := by simpa using w18
      exfalso; omega
    | 7, hii =>
      cases hii
      have w26 : (Xi S 904 70) = 7 := by simpa using w18
      exfalso; omega
    | 8, hii =>
      cases hii
      have w27 : (Xi S 904 70) = 8 := by simpa using w18
      exfalso; omega
    | 9, hii =>
      cases hii
      have w28 : (Xi S 904 70) = 9 := by simpa using w18
      exfalso; omega
    | 10, hii =>
      cases hii
      have w29 : (Xi S 904 70) = 10 := by simpa using w18
      refine y_aload_n rfl rfl ?_
      have w30 : Xi U4 904 104 = Xi S 904 104 := (show Xi U4 904 104 = Xi U3 904 104 from by rw [eU4]; exact Xi_ne (by omega)).trans ( (show Xi U3 904 104 = Xi U2 904 104 from by rw [eU3]; exact Xi_ne (by omega)).trans ( (show Xi U2 904 104 = Xi U1 904 104 from by rw [eU2]; exact Xi_ne (by omega)).trans ((show Xi U1 904 104 = Xi S 904 104 from by rw [eU1]; exact Xi_ne (by omega)))))
      have w31 : Xi U4 904 105 = Xi S 904 105 := (show Xi U4 904 105 = Xi U3 904 105 from by rw [eU4]; exact Xi_ne (by omega)).trans ( (show Xi U3 904 105 = Xi U2 904 105 from by rw [eU3]; exact Xi_ne (by omega)).trans ( (show Xi U2 904 105 = Xi U1 904 105 from by rw [eU2]; exact Xi_ne (by omega)).trans ((show Xi U1 904 105 = Xi S 904 105 from by rw [eU1]; exact Xi_ne (by omega)))))
      have w32 : Xi U4 904 106 = Xi U1 904 106 := (show Xi U4 904 106 = Xi U3 904 106 from by rw [eU4]; exact Xi_ne (by omega)).trans ( (show Xi U3 904 106 = Xi U2 904 106 from by rw [eU3]; exact Xi_ne (by omega)).trans ((show Xi U2 904 106 = Xi U1 904 106 from by rw [eU2]; exact Xi_ne (by omega))))
      have w33 : Xi U4 904 108 = Xi U2 904 108 := (show Xi U4 904 108 = Xi U3 904 108 from by rw [eU4]; exact Xi_ne (by omega)).trans ((show Xi U3 904 108 = Xi U2 904 108 from by rw [eU3]; exact Xi_ne (by omega)))
      have w34 : Xi U4 904 15 = Xi S 904 15 := (show Xi U4 904 15 = Xi U3 904 15 from by rw [eU4]; exact Xi_ne (by omega)).trans ( (show Xi U3 904 15 = Xi U2 904 15 from by rw [eU3]; exact Xi_ne (by omega)).trans ( (show Xi U2 904 15 = Xi U1 904 15 from by rw [eU2]; exact Xi_ne (by omega)).trans ((show Xi U1 904 15 = Xi S 904 15 from by rw [eU1]; exact Xi_ne (by omega)))))
      have w35 : Xi U4 904 16 = Xi S 904 16 := (show Xi U4 904 16 = Xi U3 904 16 from by rw [eU4]; exact Xi_ne (by omega)).trans ( (show Xi U3 904 16 = Xi U2 904 16 from by rw [eU3]; exact Xi_ne (by omega)).trans ( (show Xi U2 904 16 = Xi U1 904 16 from by rw [eU2]; exact Xi_ne (by omega)).trans ((show Xi U1 904 16 = Xi S 904 16 from by rw [eU1]; exact Xi_ne (by omega)))))
      have w36 : Xi U4 904 18 = Xi S 904 18 := (show Xi U4 904 18 = Xi U3 904 18 from by rw [eU4]; exact Xi_ne (by omega)).trans ( (show Xi U3 904 18 = Xi U2 904 18 from by rw [eU3]; exact Xi_ne (by omega)).trans ( (show Xi U2 904 18 = Xi U1 904 18 from by rw [eU2]; exact Xi_ne (by omega)).trans ((show Xi U1 904 18 = Xi S 904 18 from by rw [eU1]; exact Xi_ne (by omega)))))
      have w37 : Xi U4 904 49 = Xi S 904 49 := (show Xi U4 904 49 = Xi U3 904 49 from by rw [eU4]; exact Xi_ne (by omega)).trans ( (show Xi U3 904 49 = Xi U2 904 49 from by rw [eU3]; exact Xi_ne (by omega)).trans ( (show Xi U2 904 49 = Xi U1 904 49 from by rw [eU2]; exact Xi_ne (by omega)).trans ((show Xi U1 904 49 = Xi S 904 49 from by rw [eU1]; exact Xi_ne (by omega)))))
      have w38 : Xi U4 904 70 = Xi S 904 70 := (show Xi U4 904 70 = Xi U3 904 70 from by rw [eU4]; exact Xi_ne (by omega)).trans ( (show Xi U3 904 70 = Xi U2 904 70 from by rw [eU3]; exact Xi_ne (by omega)).trans ( (show Xi U2 904 70 = Xi U1 904 70 from by rw [eU2]; exact Xi_ne (by omega)).trans ((show Xi U1 904 70 = Xi S 904 70 from by rw [eU1]; exact Xi_ne (by omega)))))
      have w39 : Xi U4 904 71 = Xi S 904 71 := (show Xi U4 904 71 = Xi U3 904 71 from by rw [eU4]; exact Xi_ne (by omega)).trans ( (show Xi U3 904 71 = Xi U2 904 71 from by rw [eU3]; exact Xi_ne (by omega)).trans ( (show Xi U2 904 71 = Xi U1 904 71 from by rw [eU2]; exact Xi_ne (by omega)).trans ((show Xi U1 904 71 = Xi S 904 71 from by rw [eU1]; exact Xi_ne (by omega)))))
      have w40 : Xi U4 904 72 = Xi S 904 72 := (show Xi U4 904 72 = Xi U3 904 72 from by rw [eU4]; exact Xi_ne (by omega)).trans ( (show Xi U3 904 72 = Xi U2 904 72 from by rw [eU3]; exact Xi_ne (by omega)).trans ( (show Xi U2 904 72 = Xi U1 904 72 from by rw [eU2]; exact Xi_ne (by omega)).trans ((show Xi U1 904 72 = Xi S 904 72 from by rw [eU1]; exact Xi_ne (by omega)))))
      have w41 : Xi U4 904 78 = Xi S 904 78 := (show Xi U4 904 78 = Xi U3 904 78 from by rw [eU4]; exact Xi_ne (by omega)).trans ( (show Xi U3 904 78 = Xi U2 904 78 from by rw [eU3]; exact Xi_ne (by omega)).trans ( (show Xi U2 904 78 = Xi U1 904 78 from by rw [eU2]; exact Xi_ne (by omega)).trans ((show Xi U1 904 78 = Xi S 904 78 from by rw [eU1]; exact Xi_ne (by omega)))))
      refine y_callV rfl rfl rfl (t_mo_askKinds__p hHU4 (by first | assumption | exact (LSP_FR hFU4 rfl rfl (by assumption : LSP S))) (by first | assumption | omega) (by first | assumption | exact (RBD_FR hFU4 rfl (by assumption : RBD S))) (⟨by omega, by omega⟩) (by first | assumption | omega) (by have w : wK U4 = wK S := (by unfold wK; rw [hFU4.x 904 70 rfl, hFU4.x 904 78 rfl]); rw [w, hFU4.x 904 71 rfl, hFU4.x 904 72 rfl]; exact PLO_sm (SMR_FR hFU4 rfl rfl) hp) (by first | assumption | omega) _) ?_
      rintro _ T5 ⟨hHT5, w43, rfl, o242⟩
      have hFT5 : FR md_mo_asked__10 S T5 := FR.tr hFU4 w43 rfl
      show Pl _ _ _ _ _ _ [] _ _
      have W242 : wK U4 = wK S ∧ cK U4 = cK S ∧ mK U4 = mK S := by unfold wK cK mK; rw [hFU4.x 904 70 rfl, hFU4.x 904 78 rfl, hFU4.x 904 49 rfl, hFU4.x 904 18 rfl, hFU4.x 904 16 rfl]; exact ⟨rfl, rfl, rfl⟩
      have O242 : RKD S (Xi S 904 71) (cK S) (mK S) (Xi S 904 72).toNat (wK S) (NT3 T5) := RKD_sm (SMR_FR hFU4 rfl rfl) (by have t := o242; rw [W242.1, W242.2.1, W242.2.2, hFU4.x 904 71 rfl, hFU4.x 904 72 rfl] at t; exact t)
      refine y_goto rfl rfl ?_
      refine y_return rfl rfl ?_
      have w49 : Xi T5 904 71 = Xi S 904 71 := (show Xi T5 904 71 = Xi U4 904 71 from w43.x _ _ rfl).trans ( (show Xi U4 904 71 = Xi U3 904 71 from by rw [eU4]; exact Xi_ne (by omega)).trans ( (show Xi U3 904 71 = Xi U2 904 71 from by rw [eU3]; exact Xi_ne (by omega)).trans ( (show Xi U2 904 71 = Xi U1 904 71 from by rw [eU2]; exact Xi_ne (by omega)).trans ((show Xi U1 904 71 = Xi S 904 71 from by rw [eU1]; exact Xi_ne (by omega))))))
      have w50 : Xi T5 904 72 = Xi S 904 72 := (show Xi T5 904 72 = Xi U4 904 72 from w43.x _ _ rfl).trans ( (show Xi U4 904 72 = Xi U3 904 72 from by rw [eU4]; exact Xi_ne (by omega)).trans ( (show Xi U3 904 72 = Xi U2 904 72 from by rw [eU3]; exact Xi_ne (by omega)).trans ( (show Xi U2 904 72 = Xi U1 904 72 from by rw [eU2]; exact Xi_ne (by omega)).trans ((show Xi U1 904 72 = Xi S 904 72 from by rw [eU1]; exact Xi_ne (by omega))))))
      exact ⟨hHT5, hFT5, rfl, (O242)⟩
    | 11, hii =>
      cases hii
      have w52 : (Xi S 904 70) = 11 := by simpa using w18
      refine y_aload_n rfl rfl ?_
      have w53 : Xi U4 904 104 = Xi S 904 104 := (show Xi U4 904 104 = Xi U3 904 104 from by rw [eU4]; exact Xi_ne (by omega)).trans ( (show Xi U3 904 104 = Xi U2 904 104 from by rw [eU3]; exact Xi_ne (by omega)).trans ( (show Xi U2 904 104 = Xi U1 904 104 from by rw [eU2]; exact Xi_ne (by omega)).trans ((show Xi U1 904 104 = Xi S 904 104 from by rw [eU1]; exact Xi_ne (by omega)))))
      have w54 : Xi U4 904 105 = Xi S 904 105 := (show Xi U4 904 105 = Xi U3 904 105 from by rw [eU4]; exact Xi_ne (by omega)).trans ( (show Xi U3 904 105 = Xi U2 904 105 from by rw [eU3]; exact Xi_ne (by omega)).trans ( (show Xi U2 904 105 = Xi U1 904 105 from by rw [eU2]; exact Xi_ne (by omega)).trans ((show Xi U1 904 105 = Xi S 904 105 from by rw [eU1]; exact Xi_ne (by omega)))))
      have w55 : Xi U4 904 106 = Xi U1 904 106 := (show Xi U4 904 106 = Xi U3 904 106 from by rw [eU4]; exact Xi_ne (by omega)).trans ( (show Xi U3 904 106 = Xi U2 904 106 from by rw [eU3]; exact Xi_ne (by omega)).trans ((show Xi U2 904 106 = Xi U1 904 106 from by rw [eU2]; exact Xi_ne (by omega))))
      have w56 : Xi U4 904 108 = Xi U2 904 108 := (show Xi U4 904 108 = Xi U3 904 108 from by rw [eU4]; exact Xi_ne (by omega)).trans ((show Xi U3 904 108 = Xi U2 904 108 from by rw [eU3]; exact Xi_ne (by omega)))
      have w57 : Xi U4 904 15 = Xi S 904 15 := (show Xi U4 904 15 = Xi U3 904 15 from by rw [eU4]; exact Xi_ne (by omega)).trans ( (show Xi U3 904 15 = Xi U2 904 15 from by rw [eU3]; exact Xi_ne (by omega)).trans ( (show Xi U2 904 15 = Xi U1 904 15 from by rw [eU2]; exact Xi_ne (by omega)).trans ((show Xi U1 904 15 = Xi S 904 15 from by rw [eU1]; exact Xi_ne (by omega)))))
      have w58 : Xi U4 904 16 = Xi S 904 16 := (show Xi U4 904 16 = Xi U3 904 16 from by rw [eU4]; exact Xi_ne (by omega)).trans ( (show Xi U3 904 16 = Xi U2 904 16 from by rw [eU3]; exact Xi_ne (by omega)).trans ( (show Xi U2 904 16 = Xi U1 904 16 from by rw [eU2]; exact Xi_ne (by omega)).trans ((show Xi U1 904 16 = Xi S 904 16 from by rw [eU1]; exact Xi_ne (by omega)))))
      have w59 : Xi U4 904 18 = Xi S 904 18 := (show Xi U4 904 18 = Xi U3 904 18 from by rw [eU4]; exact Xi_ne (by omega)).trans ( (show Xi U3 904 18 = Xi U2 904 18 from by rw [eU3]; exact Xi_ne (by omega)).trans ( (show Xi U2 904 18 = Xi U1 904 18 from by rw [eU2]; exact Xi_ne (by omega)).trans ((show Xi U1 904 18 = Xi S 904 18 from by rw [eU1]; exact Xi_ne (by omega)))))
      have w60 : Xi U4 904 49 = Xi S 904 49 := (show Xi U4 904 49 = Xi U3 904 49 from by rw [eU4]; exact Xi_ne (by omega)).trans ( (show Xi U3 904 49 = Xi U2 904 49 from by rw [eU3]; exact Xi_ne (by omega)).trans ( (show Xi U2 904 49 = Xi U1 904 49 from by rw [eU2]; exact Xi_ne (by omega)).trans ((show Xi U1 904 49 = Xi S 904 49 from by rw [eU1]; exact Xi_ne (by omega)))))
      have w61 : Xi U4 904 70 = Xi S 904 70 := (show Xi U4 904 70 = Xi U3 904 70 from by rw [eU4]; exact Xi_ne (by omega)).trans ( (show Xi U3 904 70 = Xi U2 904 70 from by rw [eU3]; exact Xi_ne (by omega)).trans ( (show Xi U2 904 70 = Xi U1 904 70 from by rw [eU2]; exact Xi_ne (by omega)).trans ((show Xi U1 904 70 = Xi S 904 70 from by rw [eU1]; exact Xi_ne (by omega)))))
      have w62 : Xi U4 904 71 = Xi S 904 71 := (show Xi U4 904 71 = Xi U3 904 71 from by rw [eU4]; exact Xi_ne (by omega)).trans ( (show Xi U3 904 71 = Xi U2 904 71 from by rw [eU3]; exact Xi_ne (by omega)).trans ( (show Xi U2 904 71 = Xi U1 904 71 from by rw [eU2]; exact Xi_ne (by omega)).trans ((show Xi U1 904 71 = Xi S 904 71 from by rw [eU1]; exact Xi_ne (by omega)))))
      have w63 : Xi U4 904 72 = Xi S 904 72 := (show Xi U4 904 72 = Xi U3 904 72 from by rw [eU4]; exact Xi_ne (by omega)).trans ( (show Xi U3 904 72 = Xi U2 904 72 from by rw [eU3]; exact Xi_ne (by omega)).trans ( (show Xi U2 904 72 = Xi U1 904 72 from by rw [eU2]; exact Xi_ne (by omega)).trans ((show Xi U1 904 72 = Xi S 904 72 from by rw [eU1]; exact Xi_ne (by omega)))))
      have w64 : Xi U4 904 78 = Xi S 904 78 := (show Xi U4 904 78 = Xi U3 904 78 from by rw [eU4]; exact Xi_ne (by omega)).trans ( (show Xi U3 904 78 = Xi U2 904 78 from by rw [eU3]; exact Xi_ne (by omega)).trans ( (show Xi U2 904 78 = Xi U1 904 78 from by rw [eU2]; exact Xi_ne (by omega)).trans ((show Xi U1 904 78 = Xi S 904 78 from by rw [eU1]; exact Xi_ne (by omega)))))
      refine y_callV rfl rfl rfl (t_mo_askKinds__p hHU4 (by first | assumption | exact (LSP_FR hFU4 rfl rfl (by assumption : LSP S))) (by first | assumption | omega) (by first | assumption | exact (RBD_FR hFU4 rfl (by assumption : RBD S))) (⟨by omega, by omega⟩) (by first | assumption | omega) (by have w : wK U4 = wK S := (by unfold wK; rw [hFU4.x 904 70 rfl, hFU4.x 904 78 rfl]); rw [w, hFU4.x 904 71 rfl, hFU4.x 904 72 rfl]; exact PLO_sm (SMR_FR hFU4 rfl rfl) hp) (by first | assumption | omega) _) ?_
      rintro _ T6 ⟨hHT6, w66, rfl, o242⟩
      have hFT6 : FR md_mo_asked__10 S T6 := FR.tr hFU4 w66 rfl
      show Pl _ _ _ _ _ _ [] _ _
      have W242 : wK U4 = wK S ∧ cK U4 = cK S ∧ mK U4 = mK S := by unfold wK cK mK; rw [hFU4.x 904 70 rfl, hFU4.x 904 78 rfl, hFU4.x 904 49 rfl, hFU4.x 904 18 rfl, hFU4.x 904 16 rfl]; exact ⟨rfl, rfl, rfl⟩
      have O242 : RKD S (Xi S 904 71) (cK S) (mK S) (Xi S 904 72).toNat (wK S) (NT3 T6) := RKD_sm (SMR_FR hFU4 rfl rfl) (by have t := o242; rw [W242.1, W242.2.1, W242.2.2, hFU4.x 904 71 rfl, hFU4.x 904 72 rfl] at t; exact t)
      refine y_goto rfl rfl ?_
      refine y_return rfl rfl ?_
      have w72 : Xi T6 904 71 = Xi S 904 71 := (show Xi T6 904 71 = Xi U4 904 71 from w66.x _ _ rfl).trans ( (show Xi U4 904 71 = Xi U3 904 71 from by rw [eU4]; exact Xi_ne (by omega)).trans ( (show Xi U3 904 71 = Xi U2 904 71 from by rw [eU3]; exact Xi_ne (by omega)).trans ( (show Xi U2 904 71 = Xi U1 904 71 from by rw [eU2]; exact Xi_ne (by omega)).trans ((show Xi U1 904 71 = Xi S 904 71 from by rw [eU1]; exact Xi_ne (by omega))))))
      have w73 : Xi T6 904 72 = Xi S 904 72 := (show Xi T6 904 72 = Xi U4 904 72 from w66.x _ _ rfl).trans ( (show Xi U4 904 72 = Xi U3 904 72 from by rw [eU4]; exact Xi_ne (by omega)).trans ( (show Xi U3 904 72 = Xi U2 904 72 from by rw [eU3]; exact Xi_ne (by omega)).trans ( (show Xi U2 904 72 = Xi U1 904 72 from by rw [eU2]; exact Xi_ne (by omega)).trans ((show Xi U1 904 72 = Xi S 904 72 from by rw [eU1]; exact Xi_ne (by omega))))))
      exact ⟨hHT6, hFT6, rfl, (O242)⟩
    | 12, hii =>
      cases hii
      have w75 : (Xi S 904 70) = 12 := by simpa using w18
      exfalso; omega
    | 13, hii =>
      cases hii
      have w76 : (Xi S 904 70) = 13 := by simpa using w18
      exfalso; omega
    | 14, hii =>
      cases hii
      have w77 : (Xi S 904 70) = 14 := by simpa using w18
      exfalso; omega
    | 15, hii =>
      cases hii
      have w78 : (Xi S 904 70) = 15 := by simpa using w18
      exfalso; omega
    | 16, hii =>
      cases hii
      have w79 : (Xi S 904 70) = 16 := by simpa using w18
      exfalso; omega
    | 17, hii =>
      cases hii
      have w80 : (Xi S 904 70) = 17 := by simpa using w18
      exfalso; omega
    | 18, hii =>
      cases hii
      have w81 : (Xi S 904 70) = 18 := by simpa using w18
      exfalso; omega
    | 19, hii =>
      cases hii
      have w82 : (Xi S 904 70) = 19 := by simpa using w18
      exfalso; omega
    | 20, hii =>
      cases hii
      have w83 : (Xi S 904 70) = 20 := by simpa using w18
      exfalso; omega
    | n + 21, hii => exact absurd hii (by simp)
def md_mo_asked__11 : List rec := [(904, 905, 64, 65), (904, 905, 104, 105), (904, 905, 105, 106), (904, 905, 106, 107), (904, 905, 108, 109), (904, 905, 109, 110), (904, 905, 110, 111), (904, 905, 112, 113), (904, 905, 113, 114), (904, 905, 115, 116), (904, 905, 116, 117), (904, 905, 117, 118), (904, 905, 125, 126), (904, 905, 128, 129), (904, 905, 129, 130), (904, 905, 130, 131), (904, 905, 142, 143), (904, 905, 144, 145), (904, 905, 146, 147), (904, 905, 147, 148), (904, 905, 150, 151), (904, 905, 151, 152), (904, 905, 153, 154), (904, 905, 154, 155), (904, 905, 156, 157), (904, 905, 157, 158), (904, 905, 158, 159), (904, 905, 160, 161), (966, 967, 0, 100000), (967, 968, 0, 100000), (968, 969, 0, 100000), (969, 970, 0, 100000), (970, 971, 0, 100000), (971, 972, 0, 100000), (972, 973, 0, 100000), (973, 974, 0, 100000), (974, 975, 0, 100000), (975, 976, 0, 100000), (976, 977, 0, 100000), (977, 978, 0, 100000), (978, 979, 0, 100000), (979, 980, 0, 100000), (980, 981, 0, 100000), (981, 982, 0, 100000), (982, 983, 0, 100000), (983, 984, 0, 100000), (984, 985, 0, 100000), (985, 986, 0, 100000), (986, 987, 0, 100000), (987, 988, 0, 100000), (988, 989, 0, 100000), (989, 990, 0, 100000), (990, 991, 0, 100000), (991, 992, 0, 100000), (992, 993, 0, 100000), (993, 994, 0, 100000), (994, 995, 0, 100000)]
abbrev Q_mo_asked__11 (S : sS) (first : Int) : pst := fun r S1 => RI S1 ∧ FR md_mo_asked__11 S S1 ∧ (r = none ∧ (RKD S (Xi S 904 71) (cK S) (mK S) (Xi S 904 72).toNat (wK S) (NT3 S1)))
set_option maxRecDepth 100000 in
theorem t_mo_asked__11 {S : sS} (hH : RI S) (first : Int) (hfirst : 0 ≤ first ∧ first ≤ 5001) (hLS : LSP S) (h15 : 0 ≤ Xi S 904 15) (hRB : RBD S) (hs : Xi S 904 70 = 11) (hf : 0 ≤ Xi S 904 71 ∧ Xi S 904 71 ≤ 2600 ∧ 0 ≤ Xi S 904 72 ∧ Xi S 904 72 ≤ 2600) (hp : PLO S (Xi S 904 71) (Xi S 904 72).toNat (wK S)) (hcb : 0 ≤ Xi S 904 49 ∧ Xi S 904 49 ≤ 100 ∧ 0 ≤ Xi S 904 18 ∧ Xi S 904 18 ≤ 100 ∧ 0 ≤ Xi S 904 16 ∧ Xi S 904 16 ≤ 100) (d : Nat) : Mp lay0 (d + 13) m_mo_asked [.ref 904, iv first] S (Q_mo_asked__11 S first) := by
  refine Mp_R rfl rfl (fun fu => ?_)
  have hF : FR md_mo_asked__11 S S := FR.rf
  have w1 : -2147483648 ≤ Xi S 904 104 ∧ Xi S 904 104 ≤ 2147483647 := Xi_rgI
  have w2 : -2147483648 ≤ Xi S 904 105 ∧ Xi S 904 105 ≤ 2147483647 := Xi_rgI
  have w3 : -2147483648 ≤ Xi S 904 106 ∧ Xi S 904 106 ≤ 2147483647 := Xi_rgI
  have w4 : -2147483648 ≤ Xi S 904 108 ∧ Xi S 904 108 ≤ 2147483647 := Xi_rgI
  have w5 : -2147483648 ≤ Xi S 904 15 ∧ Xi S 904 15 ≤ 2147483647 := Xi_rgI
  have w6 : -2147483648 ≤ Xi S 904 16 ∧ Xi S 904 16 ≤ 2147483647 := Xi_rgI
  have w7 : -2147483648 ≤ Xi S 904 18 ∧ Xi S 904 18 ≤ 2147483647 := Xi_rgI
  have w8 : -2147483648 ≤ Xi S 904 49 ∧ Xi S 904 49 ≤ 2147483647 := Xi_rgI
  have w9 : -2147483648 ≤ Xi S 904 70 ∧ Xi S 904 70 ≤ 2147483647 := Xi_rgI
  have w10 : -2147483648 ≤ Xi S 904 71 ∧ Xi S 904 71 ≤ 2147483647 := Xi_rgI
  have w11 : -2147483648 ≤ Xi S 904 72 ∧ Xi S 904 72 ≤ 2147483647 := Xi_rgI
  have w12 : -2147483648 ≤ Xi S 904 78 ∧ Xi S 904 78 ≤ 2147483647 := Xi_rgI
  refine y_aload_n rfl rfl ?_
  refine y_iconst rfl ?_
  refine y_pfi rfl rfl rfl rfl ?_
  obtain ⟨U1, eU1⟩ : ∃ T : sS, T = uI S 904 106 (Int32.ofInt 0) := ⟨_, rfl⟩
  rw [← eU1]
  have hHU1 : RI U1 := by rw [eU1]; exact RI_w hH
  have hFU1 : FR md_mo_asked__11 S U1 := by rw [eU1]; exact FR.wI hF (mdf_i (r := (904, 905, 106, 107)) (List.mem_of_getElem? (i := 3) rfl) (inR_i (by omega) (by omega) (by omega) (by omega)))
  have w13 : Xi U1 904 106 = 0 := by rw [eU1]; exact Xi_same (by unfold rg; omega)
  refine y_aload_n rfl rfl ?_
  refine y_iconst rfl ?_
  refine y_pfi rfl rfl rfl rfl ?_
  obtain ⟨U2, eU2⟩ : ∃ T : sS, T = uI U1 904 108 (Int32.ofInt 0) := ⟨_, rfl⟩
  rw [← eU2]
  have hHU2 : RI U2 := by rw [eU2]; exact RI_w hHU1
  have hFU2 : FR md_mo_asked__11 S U2 := by rw [eU2]; exact FR.wI hFU1 (mdf_i (r := (904, 905, 108, 109)) (List.mem_of_getElem? (i := 4) rfl) (inR_i (by omega) (by omega) (by omega) (by omega)))
  have w14 : Xi U2 904 108 = 0 := by rw [eU2]; exact Xi_same (by unfold rg; omega)
  refine y_aload_n rfl rfl ?_
  refine y_iconst rfl ?_
  refine y_pfi rfl rfl rfl rfl ?_
  obtain ⟨U3, eU3⟩ : ∃ T : sS, T = uI U2 904 115 (Int32.ofInt (-1)) := ⟨_, rfl⟩
  rw [← eU3]
  have hHU3 : RI U3 := by rw [eU3]; exact RI_w hHU2
  have hFU3 : FR md_mo_asked__11 S U3 := by rw [eU3]; exact FR.wI hFU2 (mdf_i (r := (904, 905, 115, 116)) (List.mem_of_getElem? (i := 9) rfl) (inR_i (by omega) (by omega) (by omega) (by omega)))
  have w15 : Xi U3 904 115 = (-1) := by rw [eU3]; exact Xi_same (by unfold rg; omega)
  refine y_aload_n rfl rfl ?_
  refine y_iconst rfl ?_
  refine y_pfi rfl rfl rfl rfl ?_
  obtain ⟨U4, eU4⟩ : ∃ T : sS, T = uI U3 904 116 (Int32.ofInt (-1)) := ⟨_, rfl⟩
  rw [← eU4]
  have hHU4 : RI U4 := by rw [eU4]; exact RI_w hHU3
  have hFU4 : FR md_mo_asked__11 S U4 := by rw [eU4]; exact FR.wI hFU3 (mdf_i (r := (904, 905, 116, 117)) (List.mem_of_getElem? (i := 10) rfl) (inR_i (by omega) (by omega) (by omega) (by omega)))
  have w16 : Xi U4 904 116 = (-1) := by rw [eU4]; exact Xi_same (by unfold rg; omega)
  refine y_aload_n rfl rfl ?_
  refine y_gfi rfl rfl rfl rfl rfl ?_
  have w17 : (Xi U4 904 70) = (Xi S 904 70) := (show Xi U4 904 70 = Xi U3 904 70 from by rw [eU4]; exact Xi_ne (by omega)).trans ( (show Xi U3 904 70 = Xi U2 904 70 from by rw [eU3]; exact Xi_ne (by omega)).trans ( (show Xi U2 904 70 = Xi U1 904 70 from by rw [eU2]; exact Xi_ne (by omega)).trans ((show Xi U1 904 70 = Xi S 904 70 from by rw [eU1]; exact Xi_ne (by omega)))))
  rw [w17]
  refine y_tsw rfl rfl rfl rfl (by unfold rg; omega) (fun w18 => ?_) (fun ii tt hii w18 => ?_)
  · exfalso; omega
  · match ii, hii with
    | 0, hii =>
      cases hii
      have w19 : (Xi S 904 70) = 0 := by simpa using w18
      exfalso; omega
    | 1, hii =>
      cases hii
      have w20 : (Xi S 904 70) = 1 := by simpa using w18
      exfalso; omega
    | 2, hii =>
      cases hii
      have w21 : (Xi S 904 70) = 2 := by simpa using w18
      exfalso; omega
    | 3, hii =>
      cases hii
      have w22 : (Xi S 904 70) = 3 := by simpa using w18
      exfalso; omega
    | 4, hii =>
      cases hii
      have w23 : (Xi S 904 70) = 4 := by simpa using w18
      exfalso; omega
    | 5, hii =>
      cases hii
      have w24 : (Xi S 904 70) = 5 := by simpa using w18
      exfalso; omega
    | 6, hii =>
      cases hii
      have w25 : (Xi S 904 70) = 6 := by simpa using w18
      exfalso; omega
    | 7, hii =>
      cases hii
      have w26 : (Xi S 904 70) = 7 := by simpa using w18
      exfalso; omega
    | 8, hii =>
      cases hii
      have w27 : (Xi S 904 70) = 8 := by simpa using w18
      exfalso; omega
    | 9, hii =>
      cases hii
      have w28 : (Xi S 904 70) = 9 := by simpa using w18
      exfalso; omega
    | 10, hii =>
      cases hii
      have w29 : (Xi S 904 70) = 10 := by simpa using w18
      refine y_aload_n rfl rfl ?_
      have w30 : Xi U4 904 104 = Xi S 904 104 := (show Xi U4 904 104 = Xi U3 904 104 from by rw [eU4]; exact Xi_ne (by omega)).trans ( (show Xi U3 904 104 = Xi U2 904 104 from by rw [eU3]; exact Xi_ne (by omega)).trans ( (show Xi U2 904 104 = Xi U1 904 104 from by rw [eU2]; exact Xi_ne (by omega)).trans ((show Xi U1 904 104 = Xi S 904 104 from by rw [eU1]; exact Xi_ne (by omega)))))
      have w31 : Xi U4 904 105 = Xi S 904 105 := (show Xi U4 904 105 = Xi U3 904 105 from by rw [eU4]; exact Xi_ne (by omega)).trans ( (show Xi U3 904 105 = Xi U2 904 105 from by rw [eU3]; exact Xi_ne (by omega)).trans ( (show Xi U2 904 105 = Xi U1 904 105 from by rw [eU2]; exact Xi_ne (by omega)).trans ((show Xi U1 904 105 = Xi S 904 105 from by rw [eU1]; exact Xi_ne (by omega)))))
      have w32 : Xi U4 904 106 = Xi U1 904 106 := (show Xi U4 904 106 = Xi U3 904 106 from by rw [eU4]; exact Xi_ne (by omega)).trans ( (show Xi U3 904 106 = Xi U2 904 106 from by rw [eU3]; exact Xi_ne (by omega)).trans ((show Xi U2 904 106 = Xi U1 904 106 from by rw [eU2]; exact Xi_ne (by omega))))
      have w33 : Xi U4 904 108 = Xi U2 904 108 := (show Xi U4 904 108 = Xi U3 904 108 from by rw [eU4]; exact Xi_ne (by omega)).trans ((show Xi U3 904 108 = Xi U2 904 108 from by rw [eU3]; exact Xi_ne (by omega)))
      have w34 : Xi U4 904 15 = Xi S 904 15 := (show Xi U4 904 15 = Xi U3 904 15 from by rw [eU4]; exact Xi_ne (by omega)).trans ( (show Xi U3 904 15 = Xi U2 904 15 from by rw [eU3]; exact Xi_ne (by omega)).trans ( (show Xi U2 904 15 = Xi U1 904 15 from by rw [eU2]; exact Xi_ne (by omega)).trans ((show Xi U1 904 15 = Xi S 904 15 from by rw [eU1]; exact Xi_ne (by omega)))))
      have w35 : Xi U4 904 16 = Xi S 904 16 := (show Xi U4 904 16 = Xi U3 904 16 from by rw [eU4]; exact Xi_ne (by omega)).trans ( (show Xi U3 904 16 = Xi U2 904 16 from by rw [eU3]; exact Xi_ne (by omega)).trans ( (show Xi U2 904 16 = Xi U1 904 16 from by rw [eU2]; exact Xi_ne (by omega)).trans ((show Xi U1 904 16 = Xi S 904 16 from by rw [eU1]; exact Xi_ne (by omega)))))
      have w36 : Xi U4 904 18 = Xi S 904 18 := (show Xi U4 904 18 = Xi U3 904 18 from by rw [eU4]; exact Xi_ne (by omega)).trans ( (show Xi U3 904 18 = Xi U2 904 18 from by rw [eU3]; exact Xi_ne (by omega)).trans ( (show Xi U2 904 18 = Xi U1 904 18 from by rw [eU2]; exact Xi_ne (by omega)).trans ((show Xi U1 904 18 = Xi S 904 18 from by rw [eU1]; exact Xi_ne (by omega)))))
      have w37 : Xi U4 904 49 = Xi S 904 49 := (show Xi U4 904 49 = Xi U3 904 49 from by rw [eU4]; exact Xi_ne (by omega)).trans ( (show Xi U3 904 49 = Xi U2 904 49 from by rw [eU3]; exact Xi_ne (by omega)).trans ( (show Xi U2 904 49 = Xi U1 904 49 from by rw [eU2]; exact Xi_ne (by omega)).trans ((show Xi U1 904 49 = Xi S 904 49 from by rw [eU1]; exact Xi_ne (by omega)))))
      have w38 : Xi U4 904 70 = Xi S 904 70 := (show Xi U4 904 70 = Xi U3 904 70 from by rw [eU4]; exact Xi_ne (by omega)).trans ( (show Xi U3 904 70 = Xi U2 904 70 from by rw [eU3]; exact Xi_ne (by omega)).trans ( (show Xi U2 904 70 = Xi U1 904 70 from by rw [eU2]; exact Xi_ne (by omega)).trans ((show Xi U1 904 70 = Xi S 904 70 from by rw [eU1]; exact Xi_ne (by omega)))))
      have w39 : Xi U4 904 71 = Xi S 904 71 := (show Xi U4 904 71 = Xi U3 904 71 from by rw [eU4]; exact Xi_ne (by omega)).trans ( (show Xi U3 904 71 = Xi U2 904 71 from by rw [eU3]; exact Xi_ne (by omega)).trans ( (show Xi U2 904 71 = Xi U1 904 71 from by rw [eU2]; exact Xi_ne (by omega)).trans ((show Xi U1 904 71 = Xi S 904 71 from by rw [eU1]; exact Xi_ne (by omega)))))
      have w40 : Xi U4 904 72 = Xi S 904 72 := (show Xi U4 904 72 = Xi U3 904 72 from by rw [eU4]; exact Xi_ne (by omega)).trans ( (show Xi U3 904 72 = Xi U2 904 72 from by rw [eU3]; exact Xi_ne (by omega)).trans ( (show Xi U2 904 72 = Xi U1 904 72 from by rw [eU2]; exact Xi_ne (by omega)).trans ((show Xi U1 904 72 = Xi S 904 72 from by rw [eU1]; exact Xi_ne (by omega)))))
      have w41 : Xi U4 904 78 = Xi S 904 78 := (show Xi U4 904 78 = Xi U3 904 78 from by rw [eU4]; exact Xi_ne (by omega)).trans ( (show Xi U3 904 78 = Xi U2 904 78 from by rw [eU3]; exact Xi_ne (by omega)).trans ( (show Xi U2 904 78 = Xi U1 904 78 from by rw [eU2]; exact Xi_ne (by omega)).trans ((show Xi U1 904 78 = Xi S 904 78 from by rw [eU1]; exact Xi_ne (by omega)))))
      refine y_callV rfl rfl rfl (t_mo_askKinds__p hHU4 (by first | assumption | exact (LSP_FR hFU4 rfl rfl (by assumption : LSP S))) (by first | assumption | omega) (by first | assumption | exact (RBD_FR hFU4 rfl (by assumption : RBD S))) (⟨by omega, by omega⟩) (by first | assumption | omega) (by have w : wK U4 = wK S := (by unfold wK; rw [hFU4.x 904 70 rfl, hFU4.x 904 78 rfl]); rw [w, hFU4.x 904 71 rfl, hFU4.x 904 72 rfl]; exact PLO_sm (SMR_FR hFU4 rfl rfl) hp) (by first | assumption | omega) _) ?_
      rintro _ T5 ⟨hHT5, w43, rfl, o242⟩
      have hFT5 : FR md_mo_asked__11 S T5 := FR.tr hFU4 w43 rfl
      show Pl _ _ _ _ _ _ [] _ _
      have W242 : wK U4 = wK S ∧ cK U4 = cK S ∧ mK U4 = mK S := by unfold wK cK mK; rw [hFU4.x 904 70 rfl, hFU4.x 904 78 rfl, hFU4.x 904 49 rfl, hFU4.x 904 18 rfl, hFU4.x 904 16 rfl]; exact ⟨rfl, rfl, rfl⟩
      have O242 : RKD S (Xi S 904 71) (cK S) (mK S) (Xi S 904 72).toNat (wK S) (NT3 T5) := RKD_sm (SMR_FR hFU4 rfl rfl) (by have t := o242; rw [W242.1, W242.2.1, W242.2.2, hFU4.x 904 71 rfl, hFU4.x 904 72 rfl] at t; exact t)
      refine y_goto rfl rfl ?_
      refine y_return rfl rfl ?_
      have w49 : Xi T5 904 71 = Xi S 904 71 := (show Xi T5 904 71 = Xi U4 904 71 from w43.x _ _ rfl).trans ( (show Xi U4 904 71 = Xi U3 904 71 from by rw [eU4]; exact Xi_ne (by omega)).trans ( (show Xi U3 904 71 = Xi U2 904 71 from by rw [eU3]; exact Xi_ne (by omega)).trans ( (show Xi U2 904 71 = Xi U1 904 71 from by rw [eU2]; exact Xi_ne (by omega)).trans ((show Xi U1 904 71 = Xi S 904 71 from by rw [eU1]; exact Xi_ne (by omega))))))
      have w50 : Xi T5 904 72 = Xi S 904 72 := (show Xi T5 904 72 = Xi U4 904 72 from w43.x _ _ rfl).trans ( (show Xi U4 904 72 = Xi U3 904 72 from by rw [eU4]; exact Xi_ne (by omega)).trans ( (show Xi U3 904 72 = Xi U2 904 72 from by rw [eU3]; exact Xi_ne (by omega)).trans ( (show Xi U2 904 72 = Xi U1 904 72 from by rw [eU2]; exact Xi_ne (by omega)).trans ((show Xi U1 904 72 = Xi S 904 72 from by rw [eU1]; exact Xi_ne (by omega))))))
      exact ⟨hHT5, hFT5, rfl, (O242)⟩
    | 11, hii =>
      cases hii
      have w52 : (Xi S 904 70) = 11 := by simpa using w18
      refine y_aload_n rfl rfl ?_
      have w53 : Xi U4 904 104 = Xi S 904 104 := (show Xi U4 904 104 = Xi U3 904 104 from by rw [eU4]; exact Xi_ne (by omega)).trans ( (show Xi U3 904 104 = Xi U2 904 104 from by rw [eU3]; exact Xi_ne (by omega)).trans ( (show Xi U2 904 104 = Xi U1 904 104 from by rw [eU2]; exact Xi_ne (by omega)).trans ((show Xi U1 904 104 = Xi S 904 104 from by rw [eU1]; exact Xi_ne (by omega)))))
      have w54 : Xi U4 904 105 = Xi S 904 105 := (show Xi U4 904 105 = Xi U3 904 105 from by rw [eU4]; exact Xi_ne (by omega)).trans ( (show Xi U3 904 105 = Xi U2 904 105 from by rw [eU3]; exact Xi_ne (by omega)).trans ( (show Xi U2 904 105 = Xi U1 904 105 from by rw [eU2]; exact Xi_ne (by omega)).trans ((show Xi U1 904 105 = Xi S 904 105 from by rw [eU1]; exact Xi_ne (by omega)))))
      have w55 : Xi U4 904 106 = Xi U1 904 106 := (show Xi U4 904 106 = Xi U3 904 106 from by rw [eU4]; exact Xi_ne (by omega)).trans ( (show Xi U3 904 106 = Xi U2 904 106 from by rw [eU3]; exact Xi_ne (by omega)).trans ((show Xi U2 904 106 = Xi U1 904 106 from by rw [eU2]; exact Xi_ne (by omega))))
      have w56 : Xi U4 904 108 = Xi U2 904 108 := (show Xi U4 904 108 = Xi U3 904 108 from by rw [eU4]; exact Xi_ne (by omega)).trans ((show Xi U3 904 108 = Xi U2 904 108 from by rw [eU3]; exact Xi_ne (by omega)))
      have w57 : Xi U4 904 15 = Xi S 904 15 := (show Xi U4 904 15 = Xi U3 904 15 from by rw [eU4]; exact Xi_ne (by omega)).trans ( (show Xi U3 904 15 = Xi U2 904 15 from by rw [eU3]; exact Xi_ne (by omega)).trans ( (show Xi U2 904 15 = Xi U1 904 15 from by rw [eU2]; exact Xi_ne (by omega)).trans ((show Xi U1 904 15 = Xi S 904 15 from by rw [eU1]; exact Xi_ne (by omega)))))
      have w58 : Xi U4 904 16 = Xi S 904 16 := (show Xi U4 904 16 = Xi U3 904 16 from by rw [eU4]; exact Xi_ne (by omega)).trans ( (show Xi U3 904 16 = Xi U2 904 16 from by rw [eU3]; exact Xi_ne (by omega)).trans ( (show Xi U2 904 16 = Xi U1 904 16 from by rw [eU2]; exact Xi_ne (by omega)).trans ((show Xi U1 904 16 = Xi S 904 16 from by rw [eU1]; exact Xi_ne (by omega)))))
      have w59 : Xi U4 904 18 = Xi S 904 18 := (show Xi U4 904 18 = Xi U3 904 18 from by rw [eU4]; exact Xi_ne (by omega)).trans ( (show Xi U3 904 18 = Xi U2 904 18 from by rw [eU3]; exact Xi_ne (by omega)).trans ( (show Xi U2 904 18 = Xi U1 904 18 from by rw [eU2]; exact Xi_ne (by omega)).trans ((show Xi U1 904 18 = Xi S 904 18 from by rw [eU1]; exact Xi_ne (by omega)))))
      have w60 : Xi U4 904 49 = Xi S 904 49 := (show Xi U4 904 49 = Xi U3 904 49 from by rw [eU4]; exact Xi_ne (by omega)).trans ( (show Xi U3 904 49 = Xi U2 904 49 from by rw [eU3]; exact Xi_ne (by omega)).trans ( (show Xi U2 904 49 = Xi U1 904 49 from by rw [eU2]; exact Xi_ne (by omega)).trans ((show Xi U1 904 49 = Xi S 904 49 from by rw [eU1]; exact Xi_ne (by omega)))))
      have w61 : Xi U4 904 70 = Xi S 904 70 := (show Xi U4 904 70 = Xi U3 904 70 from by rw [eU4]; exact Xi_ne (by omega)).trans ( (show Xi U3 904 70 = Xi U2 904 70 from by rw [eU3]; exact Xi_ne (by omega)).trans ( (show Xi U2 904 70 = Xi U1 904 70 from by rw [eU2]; exact Xi_ne (by omega)).trans ((show Xi U1 904 70 = Xi S 904 70 from by rw [eU1]; exact Xi_ne (by omega)))))
      have w62 : Xi U4 904 71 = Xi S 904 71 := (show Xi U4 904 71 = Xi U3 904 71 from by rw [eU4]; exact Xi_ne (by omega)).trans ( (show Xi U3 904 71 = Xi U2 904 71 from by rw [eU3]; exact Xi_ne (by omega)).trans ( (show Xi U2 904 71 = Xi U1 904 71 from by rw [eU2]; exact Xi_ne (by omega)).trans ((show Xi U1 904 71 = Xi S 904 71 from by rw [eU1]; exact Xi_ne (by omega)))))
      have w63 : Xi U4 904 72 = Xi S 904 72 := (show Xi U4 904 72 = Xi U3 904 72 from by rw [eU4]; exact Xi_ne (by omega)).trans ( (show Xi U3 904 72 = Xi U2 904 72 from by rw [eU3]; exact Xi_ne (by omega)).trans ( (show Xi U2 904 72 = Xi U1 904 72 from by rw [eU2]; exact Xi_ne (by omega)).trans ((show Xi U1 904 72 = Xi S 904 72 from by rw [eU1]; exact Xi_ne (by omega)))))
      have w64 : Xi U4 904 78 = Xi S 904 78 := (show Xi U4 904 78 = Xi U3 904 78 from by rw [eU4]; exact Xi_ne (by omega)).trans ( (show Xi U3 904 78 = Xi U2 904 78 from by rw [eU3]; exact Xi_ne (by omega)).trans ( (show Xi U2 904 78 = Xi U1 904 78 from by rw [eU2]; exact Xi_ne (by omega)).trans ((show Xi U1 904 78 = Xi S 904 78 from by rw [eU1]; exact Xi_ne (by omega)))))
      refine y_callV rfl rfl rfl (t_mo_askKinds__p hHU4 (by first | assumption | exact (LSP_FR hFU4 rfl rfl (by assumption : LSP S))) (by first | assumption | omega) (by first | assumption | exact (RBD_FR hFU4 rfl (by assumption : RBD S))) (⟨by omega, by omega⟩) (by first | assumption | omega) (by have w : wK U4 = wK S := (by unfold wK; rw [hFU4.x 904 70 rfl, hFU4.x 904 78 rfl]); rw [w, hFU4.x 904 71 rfl, hFU4.x 904 72 rfl]; exact PLO_sm (SMR_FR hFU4 rfl rfl) hp) (by first | assumption | omega) _) ?_
      rintro _ T6 ⟨hHT6, w66, rfl, o242⟩
      have hFT6 : FR md_mo_asked__11 S T6 := FR.tr hFU4 w66 rfl
      show Pl _ _ _ _ _ _ [] _ _
      have W242 : wK U4 = wK S ∧ cK U4 = cK S ∧ mK U4 = mK S := by unfold wK cK mK; rw [hFU4.x 904 70 rfl, hFU4.x 904 78 rfl, hFU4.x 904 49 rfl, hFU4.x 904 18 rfl, hFU4.x 904 16 rfl]; exact ⟨rfl, rfl, rfl⟩
      have O242 : RKD S (Xi S 904 71) (cK S) (mK S) (Xi S 904 72).toNat (wK S) (NT3 T6) := RKD_sm (SMR_FR hFU4 rfl rfl) (by have t := o242; rw [W242.1, W242.2.1, W242.2.2, hFU4.x 904 71 rfl, hFU4.x 904 72 rfl] at t; exact t)
      refine y_goto rfl rfl ?_
      refine y_return rfl rfl ?_
      have w72 : Xi T6 904 71 = Xi S 904 71 := (show Xi T6 904 71 = Xi U4 904 71 from w66.x _ _ rfl).trans ( (show Xi U4 904 71 = Xi U3 904 71 from by rw [eU4]; exact Xi_ne (by omega)).trans ( (show Xi U3 904 71 = Xi U2 904 71 from by rw [eU3]; exact Xi_ne (by omega)).trans ( (show Xi U2 904 71 = Xi U1 904 71 from by rw [eU2]; exact Xi_ne (by omega)).trans ((show Xi U1 904 71 = Xi S 904 71 from by rw [eU1]; exact Xi_ne (by omega))))))
      have w73 : Xi T6 904 72 = Xi S 904 72 := (show Xi T6 904 72 = Xi U4 904 72 from w66.x _ _ rfl).trans ( (show Xi U4 904 72 = Xi U3 904 72 from by rw [eU4]; exact Xi_ne (by omega)).trans ( (show Xi U3 904 72 = Xi U2 904 72 from by rw [eU3]; exact Xi_ne (by omega)).trans ( (show Xi U2 904 72 = Xi U1 904 72 from by rw [eU2]; exact Xi_ne (by omega)).trans ((show Xi U1 904 72 = Xi S 904 72 from by rw [eU1]; exact Xi_ne (by omega))))))
      exact ⟨hHT6, hFT6, rfl, (O242)⟩
    | 12, hii =>
      cases hii
      have w75 : (Xi S 904 70) = 12 := by simpa using w18
      exfalso; omega
    | 13, hii =>
      cases hii
      have w76 : (Xi S 904 70) = 13 := by simpa using w18
      exfalso; omega
    | 14, hii =>
      cases hii
      have w77 : (Xi S 904 70) = 14 := by simpa using w18
      exfalso; omega
    | 15, hii =>
      cases hii
      have w78 : (Xi S 904 70) = 15 := by simpa using w18
      exfalso; omega
    | 16, hii =>
      cases hii
      have w79 : (Xi S 904 70) = 16 := by simpa using w18
      exfalso; omega
    | 17, hii =>
      cases hii
      have w80 : (Xi S 904 70) = 17 := by simpa using w18
      exfalso; omega
    | 18, hii =>
      cases hii
      have w81 : (Xi S 904 70) = 18 := by simpa using w18
      exfalso; omega
    | 19, hii =>
      cases hii
      have w82 : (Xi S 904 70) = 19 := by simpa using w18
      exfalso; omega
    | 20, hii =>
      cases hii
      have w83 : (Xi S 904 70) = 20 := by simpa using w18
      exfalso; omega
    | n + 21, hii => exact absurd hii (by simp)
def md_mo_does__11 : List rec := [(904, 905, 15, 16), (904, 905, 16, 17), (904, 905, 18, 19), (904, 905, 19, 20), (904, 905, 23, 24), (904, 905, 30, 31), (904, 905, 32, 33), (904, 905, 41, 42), (904, 905, 47, 48), (904, 905, 49, 50), (904, 905, 51, 52), (904, 905, 55, 56), (904, 905, 60, 61), (904, 905, 64, 65), (904, 905, 73, 74), (904, 905, 105, 106), (904, 905, 106, 107), (904, 905, 113, 114), (904, 905, 117, 118), (912, 913, 0, 100000), (913, 914, 0, 100000), (914, 915, 0, 100000), (915, 916, 0, 100000), (916, 917, 0, 100000), (917, 918, 0, 100000), (918, 919, 0, 100000), (919, 920, 0, 100000), (920, 921, 0, 100000), (921, 922, 0, 100000), (922, 923, 0, 100000), (923, 924, 0, 100000), (924, 925, 0, 100000), (925, 926, 0, 100000), (926, 927, 0, 100000), (927, 928, 0, 100000), (928, 929, 0, 100000), (929, 930, 0, 100000), (930, 931, 0, 100000), (931, 932, 0, 100000), (932, 933, 0, 100000), (933, 934, 0, 100000), (934, 935, 0, 100000), (935, 936, 0, 100000), (936, 937, 0, 100000), (937, 938, 0, 100000), (938, 939, 0, 100000), (939, 940, 0, 100000), (940, 941, 0, 100000), (941, 942, 0, 100000), (942, 943, 0, 100000), (943, 944, 0, 100000), (944, 945, 0, 100000), (945, 946, 0, 100000), (946, 947, 0, 100000), (947, 948, 0, 100000), (948, 949, 0, 100000), (949, 950, 0, 100000)]
abbrev Q_mo_does__11 (S : sS) (first : Int) : pst := fun r S1 => RI S1 ∧ FR md_mo_does__11 S S1 ∧ (r = none ∧ (RD11 S S1))
set_option maxRecDepth 100000 in
theorem t_mo_does__11 {S : sS} (hH : RI S) (first : Int) (hfirst : 0 ≤ first ∧ first ≤ 5001) (hLS : LSP S) (h15 : 0 ≤ Xi S 904 15) (hRB : RBD S) (hLX : LXR S) (hl : 0 ≤ Xi S 904 71 ∧ Xi S 904 71 ≤ 2600 ∧ 0 ≤ Xi S 904 72 ∧ Xi S 904 72 ≤ 2600) (hs : Xi S 904 70 = 11) (hk : Hid (Xi S 904 78 ≠ -1 → rnR S (Xi S 904 78) 0 ≠ -1)) (ha : 0 ≤ Xi S 904 49 ∧ Xi S 904 49 + Xi S 904 72 ≤ 12) (h15b : Xi S 904 15 ≤ 100000) (d : Nat) : Mp lay0 (d + 8) m_mo_does [.ref 904, iv first] S (Q_mo_does__11 S first) := by
  refine Mp_R rfl rfl (fun fu => ?_)
  have hF : FR md_mo_does__11 S S := FR.rf
  have w1 : -2147483648 ≤ Xi S 904 15 ∧ Xi S 904 15 ≤ 2147483647 := Xi_rgI
  have w2 : -2147483648 ≤ Xi S 904 49 ∧ Xi S 904 49 ≤ 2147483647 := Xi_rgI
  have w3 : -2147483648 ≤ Xi S 904 70 ∧ Xi S 904 70 ≤ 2147483647 := Xi_rgI
  have w4 : -2147483648 ≤ Xi S 904 71 ∧ Xi S 904 71 ≤ 2147483647 := Xi_rgI
  have w5 : -2147483648 ≤ Xi S 904 72 ∧ Xi S 904 72 ≤ 2147483647 := Xi_rgI
  have w6 : -2147483648 ≤ Xi S 904 78 ∧ Xi S 904 78 ≤ 2147483647 := Xi_rgI
  have hkr : rg (kdW S) := kdw_rg hLX h15
  have C300 : ∀ (n300 : Nat) (_ : n300 ≤ fu) (T1 : sS) (_ : RI T1) (_ : FR md_mo_does__11 S T1) (v2 : Int), (0 ≤ v2 ∧ v2 ≤ 2600) → (0 ≤ v2 ∧ v2 ≤ Xi S 904 72) → (Hid (TLL S 11 (Xi S 904 49) (Xi S 904 71) (v2).toNat T1)) → (Hid (ARN S T1 942 (Xi S 904 49) (kdW S) (v2).toNat)) → (LSP T1) → (Hid (Xi S 904 78 ≠ -1 → rnR T1 (Xi S 904 78) 0 = rnR S (Xi S 904 78) 0)) → (Xi T1 904 49 = Xi S 904 49 + v2) → (Xi T1 904 15 = Xi S 904 15 + v2) → (Xi T1 904 78 = Xi S 904 78) → (Xi T1 904 71 = Xi S 904 71) → (Xi T1 904 72 = Xi S 904 72) → Pl n300 lay0 (d + 7) m_mo_does 300 [(0, .ref 904), (2, iv v2)] [] T1 (Q_mo_does__11 S first) := by
    intro n300
    induction n300 with
    | zero => intros; exact Pl_0
    | succ n300 ih300 =>
      intro hm300 T1 hHT1 hFT1 v2 w7 w8 M300 A300 L300 k300 w9 w10 w11 w12 w13
      have w14 : Xi T1 904 110 = Xi S 904 110 := hFT1.x _ _ rfl
      have w15 : Xi T1 904 112 = Xi S 904 112 := hFT1.x _ _ rfl
      have w16 : Xi T1 904 142 = Xi S 904 142 := hFT1.x _ _ rfl
      have w17 : Xi T1 904 69 = Xi S 904 69 := hFT1.x _ _ rfl
      have w18 : Xi T1 904 70 = Xi S 904 70 := hFT1.x _ _ rfl
      have w19 : Xi T1 904 71 = Xi S 904 71 := hFT1.x _ _ rfl
      have w20 : Xi T1 904 72 = Xi S 904 72 := hFT1.x _ _ rfl
      have w21 : Xi T1 904 74 = Xi S 904 74 := hFT1.x _ _ rfl
      have w22 : Xi T1 904 78 = Xi S 904 78 := hFT1.x _ _ rfl
      have w23 : Xi T1 904 94 = Xi S 904 94 := hFT1.x _ _ rfl
      have w24 : Xi T1 951 1 = Xi S 951 1 := hFT1.x _ _ rfl
      have w25 : Xi T1 951 2 = Xi S 951 2 := hFT1.x _ _ rfl
      have w26 : Xi T1 967 0 = Xi S 967 0 := hFT1.x _ _ rfl
      have w27 : -2147483648 ≤ Xi T1 904 15 ∧ Xi T1 904 15 ≤ 2147483647 := Xi_rgI
      have w28 : -2147483648 ≤ Xi T1 904 49 ∧ Xi T1 904 49 ≤ 2147483647 := Xi_rgI
      have w29 : -2147483648 ≤ Xi T1 904 70 ∧ Xi T1 904 70 ≤ 2147483647 := Xi_rgI
      have w30 : -2147483648 ≤ Xi T1 904 71 ∧ Xi T1 904 71 ≤ 2147483647 := Xi_rgI
      have w31 : -2147483648 ≤ Xi T1 904 72 ∧ Xi T1 904 72 ≤ 2147483647 := Xi_rgI
      have w32 : -2147483648 ≤ Xi T1 904 78 ∧ Xi T1 904 78 ≤ 2147483647 := Xi_rgI
      refine ys_iload_n rfl rfl ?_
      refine y_aload_n rfl rfl ?_
      refine y_gfi rfl rfl rfl rfl rfl ?_
      refine y_icmp_ge rfl rfl (by unfold rg; omega) (by unfold rg; omega) (fun w33 => ?_) (fun w34 => ?_)
      · refine y_goto rfl rfl ?_
        refine y_return rfl rfl ?_
        exact ⟨hHT1, hFT1, rfl, (by first | (have t := M300; have b351 : v2 = Xi S 904 72 := (by omega); exact ⟨by omega, by have t := M300.o; rw [b351] at t; exact t, by have t := A300.o; rw [b351] at t; exact t⟩) | (exfalso; omega))⟩
      · refine y_aload_n rfl rfl ?_
        refine y_bipush rfl rfl ?_
        refine y_aload_n rfl rfl ?_
        refine y_aload_n rfl rfl ?_
        refine y_gfi rfl rfl rfl rfl rfl ?_
        refine y_iconst rfl ?_
        refine y_icmp_ne rfl rfl (by unfold rg; omega) (by unfold rg; omega) (fun w35 => ?_) (fun w36 => ?_)
        · refine y_aload_n rfl rfl ?_
          refine y_aload_n rfl rfl ?_
          refine y_gfi rfl rfl rfl rfl rfl ?_
          refine y_iconst rfl ?_
          refine y_callV rfl rfl rfl (t_mo_meansRun__p hHT1 (Xi T1 904 78) 0 ⟨by omega, by omega⟩ ⟨by omega, by omega⟩ (by first | assumption | exact (by assumption : LSP T1)) (by first | assumption | omega) (by first | assumption | exact (RBD_FR hFT1 rfl (by assumption : RBD S))) _) ?_
          rintro _ _ ⟨rfl, z37, rfl, w37, f330⟩
          show Pl _ _ _ _ _ _ [iv z37, .ref 904, iv 11, .ref 904] _ _
          have K330 : z37 = kdW S := by have t := f330; rw [show Xi T1 904 78 = Xi S 904 78 by omega] at t; exact (t.trans (k300.o (by omega))).trans (kdr_y (by omega))
          clear f330
          refine y_callV rfl rfl rfl (t_mo_addAction__p hHT1 z37 ⟨by omega, by omega⟩ (by first | assumption | omega) _) ?_
          rintro _ T2 ⟨hHT2, w39, z38, rfl, w38, z333, e333⟩
          have hFT2 : FR md_mo_does__11 S T2 := FR.tr hFT1 w39 rfl
          show Pl _ _ _ _ _ _ [iv z38, iv 11, .ref 904] _ _
          have F333 := (by assumption : FR md_mo_addAction__p T1 T2)
          have A333 : Hid (ARN S T2 942 (Xi S 904 49) (kdW S) (v2.toNat + 1)) := act1_arn A300.o (Eq.subst (motive := fun x => ACT1 T1 T2 x) (by first | exact K330 | exact kdr_n (by omega)) e333) (by omega) (by omega) hkr
          have c333 : Xi T2 904 49 = Xi T1 904 49 + 1 := e333.1
          clear e333
          have S333 : Hid (SMR T1 T2) := SMR_FR F333 rfl rfl
          have M333 : Hid (TLL S 11 (Xi S 904 49) (Xi S 904 71) (v2).toNat T2) := tll_p M300.o S333.o
          have l333 : LSP T2 := LSP_FR F333 rfl rfl L300
          have q333 : Xi T2 904 15 = Xi T1 904 15 := F333.x 904 15 rfl
          have k333 : Hid (Xi S 904 78 ≠ -1 → rnR T2 (Xi S 904 78) 0 = rnR S (Xi S 904 78) 0) := fun w => (rnR_sm S333.o).trans (k300.o w)
          refine y_aload_n rfl rfl ?_
          refine y_gfi rfl rfl rfl rfl rfl ?_
          have w40 : (Xi T2 904 71) = (Xi T1 904 71) := (show Xi T2 904 71 = Xi T1 904 71 from w39.x _ _ rfl)
          rw [w40]
          refine y_iload_n rfl rfl ?_
          refine y_iadd rfl ?_
          have w41 : Xi T2 904 15 = Xi T1 904 15 := (show Xi T2 904 15 = Xi T1 904 15 from w39.x _ _ rfl)
          have w42 : Xi T2 904 70 = Xi T1 904 70 := (show Xi T2 904 70 = Xi T1 904 70 from w39.x _ _ rfl)
          have w43 : Xi T2 904 71 = Xi T1 904 71 := (show Xi T2 904 71 = Xi T1 904 71 from w39.x _ _ rfl)
          have w44 : Xi T2 904 72 = Xi T1 904 72 := (show Xi T2 904 72 = Xi T1 904 72 from w39.x _ _ rfl)
          have w45 : Xi T2 904 78 = Xi T1 904 78 := (show Xi T2 904 78 = Xi T1 904 78 from w39.x _ _ rfl)
          refine y_callV rfl rfl rfl (t_mo_tellRun__p hHT2 11 z38 ((Xi T1 904 71) + v2) ⟨by omega, by omega⟩ ⟨by omega, by omega⟩ ⟨by omega, by omega⟩ (by first | assumption | exact (RBD_FR hFT2 rfl (by assumption : RBD S))) _) ?_
          rintro _ T3 ⟨hHT3, w47, rfl, e342⟩
          have hFT3 : FR md_mo_does__11 S T3 := FR.tr hFT2 w47 rfl
          show Pl _ _ _ _ _ _ [] _ _
          have K342 : True := trivial
          have F342 := (by assumption : FR md_mo_tellRun__p T2 T3)
          have M342 : Hid (TLL S 11 (Xi S 904 49) (Xi S 904 71) (v2.toNat + 1) T3) := tll_s M333.o e342 (by omega) (by omega) (fun j => (hFT2.cx 910 rfl j).2) (fun j => (hFT2.cx 950 rfl j).1) (fun j => (hFT2.cx 951 rfl j).1)
          have l342 : LSP T3 := LSP_tl e342 (by omega) (by omega) l333
          have q342 : Xi T3 904 15 = Xi T2 904 15 + 1 := e342.2.2
          have k342 : Hid (Xi S 904 78 ≠ -1 → rnR T3 (Xi S 904 78) 0 = rnR S (Xi S 904 78) 0) := fun w => rnR_w e342 (by omega) (fun j => (F342.cx 910 rfl j).2) (fun j => (F342.cx 950 rfl j).1) (fun j => (F342.cx 951 rfl j).1) (hk.o w) (k333.o w)
          have A342 : Hid (ARN S T3 942 (Xi S 904 49) (kdW S) (v2.toNat + 1)) := arn_k A333.o (fun j => (F342.cx 942 rfl j).1)
          clear e342
          refine y_iinc rfl rfl rfl rfl ?_
          refine y_goto rfl rfl ?_
          have w48 : Xi T3 904 49 = Xi T2 904 49 := (show Xi T3 904 49 = Xi T2 904 49 from w47.x _ _ rfl)
          have w49 : Xi T3 904 70 = Xi T1 904 70 := (show Xi T3 904 70 = Xi T2 904 70 from w47.x _ _ rfl).trans ((show Xi T2 904 70 = Xi T1 904 70 from w39.x _ _ rfl))
          have w50 : Xi T3 904 71 = Xi T1 904 71 := (show Xi T3 904 71 = Xi T2 904 71 from w47.x _ _ rfl).trans ((show Xi T2 904 71 = Xi T1 904 71 from w39.x _ _ rfl))
          have w51 : Xi T3 904 72 = Xi T1 904 72 := (show Xi T3 904 72 = Xi T2 904 72 from w47.x _ _ rfl).trans ((show Xi T2 904 72 = Xi T1 904 72 from w39.x _ _ rfl))
          have w52 : Xi T3 904 78 = Xi T1 904 78 := (show Xi T3 904 78 = Xi T2 904 78 from w47.x _ _ rfl).trans ((show Xi T2 904 78 = Xi T1 904 78 from w39.x _ _ rfl))
          exact Pl_weak (ih300 (by omega) T3 hHT3 hFT3 ((v2 + 1)) (by omega) (by omega) (by first | (have t := K342; rw [show (v2 + 1).toNat = v2.toNat + 1 by omega]; exact M342.o) | exact SMR.rf) (by first | (have t := K342; rw [show (v2 + 1).toNat = v2.toNat + 1 by omega]; exact A342.o) | exact arn_0 (fun _ => rfl)) (by first | (have t := K342; exact l342) | exact hLS) (by first | (have t := K342; exact k342.o) | exact (fun _ => rfl)) (by omega) (by omega) (by omega) (by omega) (by omega)) (by omega) (And.intro rfl (And.intro rfl (True.intro)))
        · refine y_iconst rfl ?_
          refine y_goto rfl rfl ?_
          refine y_callV rfl rfl rfl (t_mo_addAction__p hHT1 (-1) ⟨by omega, by omega⟩ (by first | assumption | omega) _) ?_
          rintro _ T4 ⟨hHT4, w54, z53, rfl, w53, z333, e333⟩
          have hFT4 : FR md_mo_does__11 S T4 := FR.tr hFT1 w54 rfl
          show Pl _ _ _ _ _ _ [iv z53, iv 11, .ref 904] _ _
          have F333 := (by assumption : FR md_mo_addAction__p T1 T4)
          have A333 : Hid (ARN S T4 942 (Xi S 904 49) (kdW S) (v2.toNat + 1)) := act1_arn A300.o (Eq.subst (motive := fun x => ACT1 T1 T4 x) (by first | exact K330 | exact kdr_n (by omega)) e333) (by omega) (by omega) hkr
          have c333 : Xi T4 904 49 = Xi T1 904 49 + 1 := e333.1
          clear e333
          have S333 : Hid (SMR T1 T4) := SMR_FR F333 rfl rfl
          have M333 : Hid (TLL S 11 (Xi S 904 49) (Xi S 904 71) (v2).toNat T4) := tll_p M300.o S333.o
          have l333 : LSP T4 := LSP_FR F333 rfl rfl L300
          have q333 : Xi T4 904 15 = Xi T1 904 15 := F333.x 904 15 rfl
          have k333 : Hid (Xi S 904 78 ≠ -1 → rnR T4 (Xi S 904 78) 0 = rnR S (Xi S 904 78) 0) := fun w => (rnR_sm S333.o).trans (k300.o w)
          refine y_aload_n rfl rfl ?_
          refine y_gfi rfl rfl rfl rfl rfl ?_
          have w55 : (Xi T4 904 71) = (Xi T1 904 71) := (show Xi T4 904 71 = Xi T1 904 71 from w54.x _ _ rfl)
          rw [w55]
          refine y_iload_n rfl rfl ?_
          refine y_iadd rfl ?_
          have w56 : Xi T4 904 15 = Xi T1 904 15 := (show Xi T4 904 15 = Xi T1 904 15 from w54.x _ _ rfl)
          have w57 : Xi T4 904 70 = Xi T1 904 70 := (show Xi T4 904 70 = Xi T1 904 70 from w54.x _ _ rfl)
          have w58 : Xi T4 904 71 = Xi T1 904 71 := (show Xi T4 904 71 = Xi T1 904 71 from w54.x _ _ rfl)
          have w59 : Xi T4 904 72 = Xi T1 904 72 := (show Xi T4 904 72 = Xi T1 904 72 from w54.x _ _ rfl)
          have w60 : Xi T4 904 78 = Xi T1 904 78 := (show Xi T4 904 78 = Xi T1 904 78 from w54.x _ _ rfl)
          refine y_callV rfl rfl rfl (t_mo_tellRun__p hHT4 11 z53 ((Xi T1 904 71) + v2) ⟨by omega, by omega⟩ ⟨by omega, by omega⟩ ⟨by omega, by omega⟩ (by first | assumption | exact (RBD_FR hFT4 rfl (by assumption : RBD S))) _) ?_
          rintro _ T5 ⟨hHT5, w62, rfl, e342⟩
          have hFT5 : FR md_mo_does__11 S T5 := FR.tr hFT4 w62 rfl
          show Pl _ _ _ _ _ _ [] _ _
          have K342 : True := trivial
          have F342 := (by assumption : FR md_mo_tellRun__p T4 T5)
          have M342 : Hid (TLL S 11 (Xi S 904 49) (Xi S 904 71) (v2.toNat + 1) T5) := tll_s M333.o e342 (by omega) (by omega) (fun j => (hFT4.cx 910 rfl j).2) (fun j => (hFT4.cx 950 rfl j).1) (fun j => (hFT4.cx 951 rfl j).1)
          have l342 : LSP T5 := LSP_tl e342 (by omega) (by omega) l333
          have q342 : Xi T5 904 15 = Xi T4 904 15 + 1 := e342.2.2
          have k342 : Hid (Xi S 904 78 ≠ -1 → rnR T5 (Xi S 904 78) 0 = rnR S (Xi S 904 78) 0) := fun w => rnR_w e342 (by omega) (fun j => (F342.cx 910 rfl j).2) (fun j => (F342.cx 950 rfl j).1) (fun j => (F342.cx 951 rfl j).1) (hk.o w) (k333.o w)
          have A342 : Hid (ARN S T5 942 (Xi S 904 49) (kdW S) (v2.toNat + 1)) := arn_k A333.o (fun j => (F342.cx 942 rfl j).1)
          clear e342
          refine y_iinc rfl rfl rfl rfl ?_
          refine y_goto rfl rfl ?_
          have w63 : Xi T5 904 49 = Xi T4 904 49 := (show Xi T5 904 49 = Xi T4 904 49 from w62.x _ _ rfl)
          have w64 : Xi T5 904 70 = Xi T1 904 70 := (show Xi T5 904 70 = Xi T4 904 70 from w62.x _ _ rfl).trans ((show Xi T4 904 70 = Xi T1 904 70 from w54.x _ _ rfl))
          have w65 : Xi T5 904 71 = Xi T1 904 71 := (show Xi T5 904 71 = Xi T4 904 71 from w62.x _ _ rfl).trans ((show Xi T4 904 71 = Xi T1 904 71 from w54.x _ _ rfl))
          have w66 : Xi T5 904 72 = Xi T1 904 72 := (show Xi T5 904 72 = Xi T4 904 72 from w62.x _ _ rfl).trans ((show Xi T4 904 72 = Xi T1 904 72 from w54.x _ _ rfl))
          have w67 : Xi T5 904 78 = Xi T1 904 78 := (show Xi T5 904 78 = Xi T4 904 78 from w62.x _ _ rfl).trans ((show Xi T4 904 78 = Xi T1 904 78 from w54.x _ _ rfl))
          exact Pl_weak (ih300 (by omega) T5 hHT5 hFT5 ((v2 + 1)) (by omega) (by omega) (by first | (have t := K342; rw [show (v2 + 1).toNat = v2.toNat + 1 by omega]; exact M342.o) | exact SMR.rf) (by first | (have t := K342; rw [show (v2 + 1).toNat = v2.toNat + 1 by omega]; exact A342.o) | exact arn_0 (fun _ => rfl)) (by first | (have t := K342; exact l342) | exact hLS) (by first | (have t := K342; exact k342.o) | exact (fun _ => rfl)) (by omega) (by omega) (by omega) (by omega) (by omega)) (by omega) (And.intro rfl (And.intro rfl (True.intro)))
  refine y_aload_n rfl rfl ?_
  refine y_gfi rfl rfl rfl rfl rfl ?_
  refine y_tsw rfl rfl rfl rfl (by unfold rg; omega) (fun w68 => ?_) (fun ii tt hii w68 => ?_)
  · refine y_return rfl rfl ?_
    exact ⟨hH, hF, rfl, (by first | (have t := M300; have b351 : v2 = Xi S 904 72 := (by omega); exact ⟨by omega, by have t := M300.o; rw [b351] at t; exact t, by have t := A300.o; rw [b351] at t; exact t⟩) | (exfalso; omega))⟩
  · match ii, hii with
    | 0, hii =>
      cases hii
      have w69 : (Xi S 904 70) = 0 := by simpa using w68
      exfalso; omega
    | 1, hii =>
      cases hii
      have w70 : (Xi S 904 70) = 1 := by simpa using w68
      exfalso; omega
    | 2, hii =>
      cases hii
      have w71 : (Xi S 904 70) = 2 := by simpa using w68
      exfalso; omega
    | 3, hii =>
      cases hii
      have w72 : (Xi S 904 70) = 3 := by simpa using w68
      refine y_return rfl rfl ?_
      exact ⟨hH, hF, rfl, (by first | (have t := M300; have b351 : v2 = Xi S 904 72 := (by omega); exact ⟨by omega, by have t := M300.o; rw [b351] at t; exact t, by have t := A300.o; rw [b351] at t; exact t⟩) | (exfalso; omega))⟩
    | 4, hii =>
      cases hii
      have w73 : (Xi S 904 70) = 4 := by simpa using w68
      refine y_return rfl rfl ?_
      exact ⟨hH, hF, rfl, (by first | (have t := M300; have b351 : v2 = Xi S 904 72 := (by omega); exact ⟨by omega, by have t := M300.o; rw [b351] at t; exact t, by have t := A300.o; rw [b351] at t; exact t⟩) | (exfalso; omega))⟩
    | 5, hii =>
      cases hii
      have w74 : (Xi S 904 70) = 5 := by simpa using w68
      refine y_return rfl rfl ?_
      exact ⟨hH, hF, rfl, (by first | (have t := M300; have b351 : v2 = Xi S 904 72 := (by omega); exact ⟨by omega, by have t := M300.o; rw [b351] at t; exact t, by have t := A300.o; rw [b351] at t; exact t⟩) | (exfalso; omega))⟩
    | 6, hii =>
      cases hii
      have w75 : (Xi S 904 70) = 6 := by simpa using w68
      refine y_return rfl rfl ?_
      exact ⟨hH, hF, rfl, (by first | (have t := M300; have b351 : v2 = Xi S 904 72 := (by omega); exact ⟨by omega, by have t := M300.o; rw [b351] at t; exact t, by have t := A300.o; rw [b351] at t; exact t⟩) | (exfalso; omega))⟩
    | 7, hii =>
      cases hii
      have w76 : (Xi S 904 70) = 7 := by simpa using w68
      exfalso; omega
    | 8, hii =>
      cases hii
      have w77 : (Xi S 904 70) = 8 := by simpa using w68
      exfalso; omega
    | 9, hii =>
      cases hii
      have w78 : (Xi S 904 70) = 9 := by simpa using w68
      exfalso; omega
    | 10, hii =>
      cases hii
      have w79 : (Xi S 904 70) = 10 := by simpa using w68
      exfalso; omega
    | 11, hii =>
      cases hii
      have w80 : (Xi S 904 70) = 11 := by simpa using w68
      refine y_iconst rfl ?_
      refine y_istore_n rfl rfl rfl ?_
      exact Pl_weak (C300 fu (by omega) S hH hF (0) (by omega) (by omega) (by first | (have t := K342; rw [show (v2 + 1).toNat = v2.toNat + 1 by omega]; exact M342.o) | exact SMR.rf) (by first | (have t := K342; rw [show (v2 + 1).toNat = v2.toNat + 1 by omega]; exact A342.o) | exact arn_0 (fun _ => rfl)) (by first | (have t := K342; exact l342) | exact hLS) (by first | (have t := K342; exact k342.o) | exact (fun _ => rfl)) (by omega) (by omega) (by omega) (by omega) (by omega)) (by omega) (And.intro rfl (And.intro rfl (True.intro)))
    | 12, hii =>
      cases hii
      have w81 : (Xi S 904 70) = 12 := by simpa using w68
      exfalso; omega
    | 13, hii =>
      cases hii
      have w82 : (Xi S 904 70) = 13 := by simpa using w68
      exfalso; omega
    | 14, hii =>
      cases hii
      have w83 : (Xi S 904 70) = 14 := by simpa using w68
      exfalso; omega
    | 15, hii =>
      cases hii
      have w84 : (Xi S 904 70) = 15 := by simpa using w68
      exfalso; omega
    | 16, hii =>
      cases hii
      have w85 : (Xi S 904 70) = 16 := by simpa using w68
      exfalso; omega
    | 17, hii =>
      cases hii
      have w86 : (Xi S 904 70) = 17 := by simpa using w68
      exfalso; omega
    | 18, hii =>
      cases hii
      have w87 : (Xi S 904 70) = 18 := by simpa using w68
      exfalso; omega
    | 19, hii =>
      cases hii
      have w88 : (Xi S 904 70) = 19 := by simpa using w68
      exfalso; omega
    | 20, hii =>
      cases hii
      have w89 : (Xi S 904 70) = 20 := by simpa using w68
      exfalso; omega
    | n + 21, hii => exact absurd hii (by simp)
def md_mo_addKind__p : List rec := [(904, 905, 16, 17), (917, 918, 0, 100000), (926, 927, 0, 100000), (929, 930, 0, 100000), (933, 934, 0, 100000)]
abbrev Q_mo_addKind__p (S : sS) (parent : Int) : pst := fun r S1 => RI S1 ∧ FR md_mo_addKind__p S S1 ∧ (∃ z : Int, r = some (iv z) ∧ (-2147483648 ≤ z ∧ z ≤ 2147483647) ∧ (z = Xi S 904 16) ∧ (AKN S S1 parent))
set_option maxRecDepth 100000 in
theorem t_mo_addKind__p {S : sS} (hH : RI S) (parent : Int) (hparent : -2147483648 ≤ parent ∧ parent ≤ 2147483647) (ha : 0 ≤ Xi S 904 16 ∧ Xi S 904 16 ≤ 15) (d : Nat) : Mp lay0 (d + 1) m_mo_addKind [.ref 904, iv parent] S (Q_mo_addKind__p S parent) := by
  refine Mp_R rfl rfl (fun fu => ?_)
  have hF : FR md_mo_addKind__p S S := FR.rf
  have w1 : -2147483648 ≤ Xi S 904 16 ∧ Xi S 904 16 ≤ 2147483647 := Xi_rgI
  have C12 : ∀ (n12 : Nat) (_ : n12 ≤ fu) (T1 : sS) (_ : RI T1) (_ : FR md_mo_addKind__p S T1) (v2 : Int), (0 ≤ v2 ∧ v2 ≤ 24) → (0 ≤ v2 ∧ v2 ≤ 12) → (Xi T1 904 16 = Xi S 904 16) → (Hid (Xi T1 917 (Xi S 904 16).toNat = parent ∧ ∀ j : Nat, j ≠ (Xi S 904 16).toNat → Xi T1 917 j = Xi S 917 j)) → (Hid (ZRO S T1 929 (12 * Xi S 904 16) v2)) → (Hid (ZRO S T1 933 (12 * Xi S 904 16) v2)) → (Hid (∀ j, Xi T1 926 j = Xi S 926 j)) → Pl n12 lay0 (d + 0) m_mo_addKind 12 [(0, .ref 904), (2, iv v2)] [] T1 (Q_mo_addKind__p S parent) := by
    intro n12
    induction n12 with
    | zero => intros; exact Pl_0
    | succ n12 ih12 =>
      intro hm12 T1 hHT1 hFT1 v2 w2 w3 w4 P12 A12 B12 D12
      have w5 : -2147483648 ≤ Xi T1 904 16 ∧ Xi T1 904 16 ≤ 2147483647 := Xi_rgI
      have C56 : ∀ (n56 : Nat) (_ : n56 ≤ n12) (T2 : sS) (_ : RI T2) (_ : FR md_mo_addKind__p S T2) (v2 : Int), (0 ≤ v2 ∧ v2 ≤ 24) → (0 ≤ v2 ∧ v2 ≤ 24) → (Xi T2 904 16 = Xi S 904 16) → (Hid (Xi T2 917 (Xi S 904 16).toNat = parent ∧ ∀ j : Nat, j ≠ (Xi S 904 16).toNat → Xi T2 917 j = Xi S 917 j)) → (Hid (ZRO S T2 929 (12 * Xi S 904 16) 12)) → (Hid (ZRO S T2 933 (12 * Xi S 904 16) 12)) → (Hid (ZRO S T2 926 (24 * Xi S 904 16) v2)) → Pl n56 lay0 (d + 0) m_mo_addKind 56 [(0, .ref 904), (2, iv v2)] [] T2 (Q_mo_addKind__p S parent) := by
        intro n56
        induction n56 with
        | zero => intros; exact Pl_0
        | succ n56 ih56 =>
          intro hm56 T2 hHT2 hFT2 v2 w6 w7 w8 P56 A56 B56 C56_
          have w9 : -2147483648 ≤ Xi T2 904 16 ∧ Xi T2 904 16 ≤ 2147483647 := Xi_rgI
          refine ys_iload_n rfl rfl ?_
          refine y_bipush rfl rfl ?_
          refine y_icmp_ge rfl rfl (by unfold rg; omega) (by unfold rg; omega) (fun w10 => ?_) (fun w11 => ?_)
          · refine y_aload_n rfl rfl ?_
            refine y_dup rfl rfl ?_
            refine y_gfi rfl rfl rfl rfl rfl ?_
            refine y_iconst rfl ?_
            refine y_iadd rfl ?_
            refine y_pfi rfl rfl rfl rfl ?_
            obtain ⟨U3, eU3⟩ : ∃ T : sS, T = uI T2 904 16 (Int32.ofInt ((Xi T2 904 16) + 1)) := ⟨_, rfl⟩
            rw [← eU3]
            have hHU3 : RI U3 := by rw [eU3]; exact RI_w hHT2
            have hFU3 : FR md_mo_addKind__p S U3 := by rw [eU3]; exact FR.wI hFT2 (mdf_i (r := (904, 905, 16, 17)) (List.mem_of_getElem? (i := 0) rfl) (inR_i (by omega) (by omega) (by omega) (by omega)))
            have w12 : Xi U3 904 16 = ((Xi T2 904 16) + 1) := by rw [eU3]; exact Xi_same (by unfold rg; omega)
            have ee90 := eU3
            refine y_aload_n rfl rfl ?_
            refine y_gfi rfl rfl rfl rfl rfl ?_
            refine y_iconst rfl ?_
            refine y_isub rfl ?_
            refine y_ireturn rfl rfl ?_
            exact ⟨hHU3, hFU3, _, rfl, ⟨by omega, by omega⟩, (by omega), (⟨by omega, ⟨by rw [ee90, Xi_ne (by omega)]; exact P56.o.1, fun j hj => by rw [ee90, Xi_ne (by omega)]; exact P56.o.2 j hj⟩, zro_k A56.o (fun j => by rw [ee90, Xi_ne (by omega)]), zro_k B56.o (fun j => by rw [ee90, Xi_ne (by omega)]), by have t := C56_.o; rw [show v2 = 24 by omega] at t; exact zro_k t (fun j => by rw [ee90, Xi_ne (by omega)])⟩)⟩
          · refine y_aload_n rfl rfl ?_
            refine y_gfr rfl rfl rfl rfl rfl (hHT2.r 904 29 926 rfl) ?_
            refine y_bipush rfl rfl ?_
            refine y_aload_n rfl rfl ?_
            refine y_gfi rfl rfl rfl rfl rfl ?_
            refine y_imul rfl ?_
            refine y_iload_n rfl rfl ?_
            refine y_iadd rfl ?_
            refine y_iconst rfl ?_
            refine y_iastoreP (n := 384) rfl rfl (by unfold rg; omega) (fun w13 w14 => ?_)
            obtain ⟨U4, eU4⟩ : ∃ T : sS, T = uI T2 926 ((((24 * (Xi T2 904 16)) + v2)).toNat) (Int32.ofInt 0) := ⟨_, rfl⟩
            rw [← eU4]
            have hHU4 : RI U4 := by rw [eU4]; exact RI_w hHT2
            have hFU4 : FR md_mo_addKind__p S U4 := by rw [eU4]; exact FR.wI hFT2 (mdf_i (r := (926, 927, 0, 100000)) (List.mem_of_getElem? (i := 2) rfl) (inR_i (by omega) (by omega) (by omega) (by omega)))
            have w15 : Xi U4 926 ((((24 * (Xi T2 904 16)) + v2)).toNat) = 0 := by rw [eU4]; exact Xi_same (by unfold rg; omega)
            have K76 : True := trivial
            have ee76 := eU4
            have C76 : Hid (ZRO S U4 926 (24 * Xi S 904 16) (v2 + 1)) := zro_s C56_.o (by rw [show 24 * Xi S 904 16 + v2 = 24 * Xi T2 904 16 + v2 by omega]; exact eU4) (by omega) (by omega)
            refine y_iinc rfl rfl rfl rfl ?_
            refine y_goto rfl rfl ?_
            have w16 : Xi U4 904 16 = Xi T2 904 16 := (show Xi U4 904 16 = Xi T2 904 16 from by rw [eU4]; exact Xi_ne (by omega))
            exact Pl_weak (ih56 (by omega) U4 hHU4 hFU4 ((v2 + 1)) (by omega) (by omega) (by omega) (by first | (have t := K76; exact ⟨by rw [ee76, Xi_ne (by omega)]; exact P56.o.1, fun j hj => by rw [ee76, Xi_ne (by omega)]; exact P56.o.2 j hj⟩) | exact P12.o) (by first | (have t := K76; exact zro_k A56.o (fun j => by rw [ee76, Xi_ne (by omega)])) | (have t := A12.o; rw [show v2 = 12 by omega] at t; exact t)) (by first | (have t := K76; exact zro_k B56.o (fun j => by rw [ee76, Xi_ne (by omega)])) | (have t := B12.o; rw [show v2 = 12 by omega] at t; exact t)) (by first | (have t := K76; exact C76) | exact zro_0 D12.o)) (by omega) (And.intro rfl (And.intro rfl (True.intro)))
      refine ys_iload_n rfl rfl ?_
      refine y_bipush rfl rfl ?_
      refine y_icmp_ge rfl rfl (by unfold rg; omega) (by unfold rg; omega) (fun w17 => ?_) (fun w18 => ?_)
      · refine y_iconst rfl ?_
        refine y_istore_n rfl rfl rfl ?_
        exact Pl_weak (C56 n12 (by omega) T1 hHT1 hFT1 (0) (by omega) (by omega) (by omega) (by first | (have t := K76; exact ⟨by rw [ee76, Xi_ne (by omega)]; exact P56.o.1, fun j hj => by rw [ee76, Xi_ne (by omega)]; exact P56.o.2 j hj⟩) | exact P12.o) (by first | (have t := K76; exact zro_k A56.o (fun j => by rw [ee76, Xi_ne (by omega)])) | (have t := A12.o; rw [show v2 = 12 by omega] at t; exact t)) (by first | (have t := K76; exact zro_k B56.o (fun j => by rw [ee76, Xi_ne (by omega)])) | (have t := B12.o; rw [show v2 = 12 by omega] at t; exact t)) (by first | (have t := K76; exact C76) | exact zro_0 D12.o)) (by omega) (And.intro rfl (And.intro rfl (True.intro)))
      · refine y_aload_n rfl rfl ?_
        refine y_gfr rfl rfl rfl rfl rfl (hHT1.r 904 34 929 rfl) ?_
        refine y_bipush rfl rfl ?_
        refine y_aload_n rfl rfl ?_
        refine y_gfi rfl rfl rfl rfl rfl ?_
        refine y_imul rfl ?_
        refine y_iload_n rfl rfl ?_
        refine y_iadd rfl ?_
        refine y_iconst rfl ?_
        refine y_bastoreZP (n := 192) rfl rfl (by unfold rg; omega) ⟨by omega, by omega⟩ (fun w19 w20 => ?_)
        obtain ⟨U5, eU5⟩ : ∃ T : sS, T = uI T1 929 ((((12 * (Xi T1 904 16)) + v2)).toNat) (Int32.ofInt 0) := ⟨_, rfl⟩
        rw [← eU5]
        have hHU5 : RI U5 := by rw [eU5]; exact RI_w hHT1
        have hFU5 : FR md_mo_addKind__p S U5 := by rw [eU5]; exact FR.wI hFT1 (mdf_i (r := (929, 930, 0, 100000)) (List.mem_of_getElem? (i := 3) rfl) (inR_i (by omega) (by omega) (by omega) (by omega)))
        have w21 : Xi U5 929 ((((12 * (Xi T1 904 16)) + v2)).toNat) = 0 := by rw [eU5]; exact Xi_same (by unfold rg; omega)
        have ee32 := eU5
        have A32 : Hid (ZRO S U5 929 (12 * Xi S 904 16) (v2 + 1)) := zro_s A12.o (by rw [show 12 * Xi S 904 16 + v2 = 12 * Xi T1 904 16 + v2 by omega]; exact eU5) (by omega) (by omega)
        refine y_aload_n rfl rfl ?_
        refine y_gfr rfl rfl rfl rfl rfl (hHU5.r 904 38 933 rfl) ?_
        refine y_bipush rfl rfl ?_
        refine y_aload_n rfl rfl ?_
        refine y_gfi rfl rfl rfl rfl rfl ?_
        have w22 : (Xi U5 904 16) = (Xi T1 904 16) := (show Xi U5 904 16 = Xi T1 904 16 from by rw [eU5]; exact Xi_ne (by omega))
        rw [w22]
        refine y_imul rfl ?_
        refine y_iload_n rfl rfl ?_
        refine y_iadd rfl ?_
        refine y_iconst rfl ?_
        refine y_bastoreZP (n := 192) rfl rfl (by unfold rg; omega) ⟨by omega, by omega⟩ (fun w23 w24 => ?_)
        obtain ⟨U6, eU6⟩ : ∃ T : sS, T = uI U5 933 ((((12 * (Xi T1 904 16)) + v2)).toNat) (Int32.ofInt 0) := ⟨_, rfl⟩
        rw [← eU6]
        have hHU6 : RI U6 := by rw [eU6]; exact RI_w hHU5
        have hFU6 : FR md_mo_addKind__p S U6 := by rw [eU6]; exact FR.wI hFU5 (mdf_i (r := (933, 934, 0, 100000)) (List.mem_of_getElem? (i := 4) rfl) (inR_i (by omega) (by omega) (by omega) (by omega)))
        have w25 : Xi U6 933 ((((12 * (Xi T1 904 16)) + v2)).toNat) = 0 := by rw [eU6]; exact Xi_same (by unfold rg; omega)
        have K47 : True := trivial
        have A47 : Hid (ZRO S U6 929 (12 * Xi S 904 16) (v2 + 1)) := zro_k A32.o (fun j => by rw [eU6, Xi_ne (by omega)])
        have B47 : Hid (ZRO S U6 933 (12 * Xi S 904 16) (v2 + 1)) := zro_s (U := U5) (zro_k B12.o (fun j => by rw [ee32, Xi_ne (by omega)])) (by rw [show 12 * Xi S 904 16 + v2 = 12 * Xi T1 904 16 + v2 by omega]; exact eU6) (by omega) (by omega)
        have P47 : Hid (Xi U6 917 (Xi S 904 16).toNat = parent ∧ ∀ j : Nat, j ≠ (Xi S 904 16).toNat → Xi U6 917 j = Xi S 917 j) := ⟨by rw [eU6, Xi_ne (by omega), ee32, Xi_ne (by omega)]; exact P12.o.1, fun j hj => by rw [eU6, Xi_ne (by omega), ee32, Xi_ne (by omega)]; exact P12.o.2 j hj⟩
        have D47 : Hid (∀ j, Xi U6 926 j = Xi S 926 j) := fun j => by rw [eU6, Xi_ne (by omega), ee32, Xi_ne (by omega)]; exact D12.o j
        refine y_iinc rfl rfl rfl rfl ?_
        refine y_goto rfl rfl ?_
        have w26 : Xi U6 904 16 = Xi T1 904 16 := (show Xi U6 904 16 = Xi U5 904 16 from by rw [eU6]; exact Xi_ne (by omega)).trans ((show Xi U5 904 16 = Xi T1 904 16 from by rw [eU5]; exact Xi_ne (by omega)))
        exact Pl_weak (ih12 (by omega) U6 hHU6 hFU6 ((v2 + 1)) (by omega) (by omega) (by omega) (by first | (have t := K47; exact P47) | exact P9) (by first | (have t := K47; exact A47) | exact A9) (by first | (have t := K47; exact B47) | exact B9) (by first | (have t := K47; exact D47) | exact D9)) (by omega) (And.intro rfl (And.intro rfl (True.intro)))
  refine y_aload_n rfl rfl ?_
  refine y_gfr rfl rfl rfl rfl rfl (hH.r 904 17 917 rfl) ?_
  refine y_aload_n rfl rfl ?_
  refine y_gfi rfl rfl rfl rfl rfl ?_
  refine y_iload_n rfl rfl ?_
  refine y_iastoreP (n := 16) rfl rfl (by unfold rg; omega) (fun w27 w28 => ?_)
  obtain ⟨U7, eU7⟩ : ∃ T : sS, T = uI S 917 (((Xi S 904 16)).toNat) (Int32.ofInt parent) := ⟨_, rfl⟩
  rw [← eU7]
  have hHU7 : RI U7 := by rw [eU7]; exact RI_w hH
  have hFU7 : FR md_mo_addKind__p S U7 := by rw [eU7]; exact FR.wI hF (mdf_i (r := (917, 918, 0, 100000)) (List.mem_of_getElem? (i := 1) rfl) (inR_i (by omega) (by omega) (by omega) (by omega)))
  have w29 : Xi U7 917 (((Xi S 904 16)).toNat) = parent := by rw [eU7]; exact Xi_same (by unfold rg; omega)
  have P9 : Hid (Xi U7 917 (Xi S 904 16).toNat = parent ∧ ∀ j : Nat, j ≠ (Xi S 904 16).toNat → Xi U7 917 j = Xi S 917 j) := ⟨by rw [eU7]; exact Xi_same (by unfold rg; omega), fun j hj => by rw [eU7, Xi_ne (by omega)]⟩
  have A9 : Hid (ZRO S U7 929 (12 * Xi S 904 16) 0) := zro_0 (fun j => by rw [eU7, Xi_ne (by omega)])
  have B9 : Hid (ZRO S U7 933 (12 * Xi S 904 16) 0) := zro_0 (fun j => by rw [eU7, Xi_ne (by omega)])
  have D9 : Hid (∀ j, Xi U7 926 j = Xi S 926 j) := fun j => by rw [eU7, Xi_ne (by omega)]
  refine y_iconst rfl ?_
  refine y_istore_n rfl rfl rfl ?_
  have w30 : Xi U7 904 16 = Xi S 904 16 := (show Xi U7 904 16 = Xi S 904 16 from by rw [eU7]; exact Xi_ne (by omega))
  exact Pl_weak (C12 fu (by omega) U7 hHU7 hFU7 (0) (by omega) (by omega) (by omega) (by first | (have t := K47; exact P47) | exact P9) (by first | (have t := K47; exact A47) | exact A9) (by first | (have t := K47; exact B47) | exact B9) (by first | (have t := K47; exact D47) | exact D9)) (by omega) (And.intro rfl (And.intro rfl (True.intro)))
end
