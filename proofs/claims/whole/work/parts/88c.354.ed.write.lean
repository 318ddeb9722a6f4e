section
/-! OUTPUT: what is written -/
def OUP (c k f : Nat) (S T : sS) (L : List Int) : Prop := Xi T k f = min 2000 (Xi S k f + L.length) ∧ (∀ j : Nat, (j : Int) < Xi S k f → Xi T c j = Xi S c j) ∧ ∀ (i : Nat) (x : Int), L[i]? = some x → Xi S k f + i < 2000 → Xi T c ((Xi S k f).toNat + i) = x.bmod 256
theorem oup_0 {c k f : Nat} {S : sS} (h : 0 ≤ Xi S k f ∧ Xi S k f ≤ 2000) : OUP c k f S S [] := ⟨by rw [List.length_nil]; omega, fun _ _ => rfl, fun i x e => by rw [List.getElem?_nil] at e; exact absurd e (by simp)⟩
theorem oup_f {c k f : Nat} {S : sS} {L : List Int} (h : 2000 ≤ Xi S k f) (g : Xi S k f ≤ 2000) : OUP c k f S S L := ⟨by omega, fun _ _ => rfl, fun i x _ q => by omega⟩
theorem oup_1 {c k f : Nat} {S T U : sS} {b x : Int} (hc : c ≠ k) (h : 0 ≤ Xi S k f ∧ Xi S k f < 2000) (e1 : T = uI S c (Xi S k f).toNat (Int32.ofInt x)) (rx : rg x) (ex : x = b.bmod 256) (e2 : U = uI T k f (Int32.ofInt (Xi S k f + 1))) : OUP c k f S U [b] := by
  refine ⟨?_, fun j hj => ?_, fun i y q r => ?_⟩
  · rw [e2, Xi_same (by unfold rg; omega), List.length_singleton]; omega
  · rw [e2, Xi_ne (by omega), e1, Xi_ne (by omega)]
  · cases i with
    | zero =>
      have : b = y := Option.some.inj q
      rw [e2, Xi_ne (by omega), e1, Nat.add_zero, Xi_same rx, ex, this]
    | succ i => exact absurd q (by simp)
theorem oup_tr {c k f : Nat} {S T U : sS} {L M : List Int} (h0 : 0 ≤ Xi S k f ∧ Xi S k f ≤ 2000) (a : OUP c k f S T L) (b : OUP c k f T U M) : OUP c k f S U (L ++ M) := by
  obtain ⟨a1, a2, a3⟩ := a
  obtain ⟨b1, b2, b3⟩ := b
  refine ⟨?_, fun j hj => ?_, fun i x q r => ?_⟩
  · rw [List.length_append]; omega
  · rw [b2 j (by omega), a2 j hj]
  · by_cases y : i < L.length
    · rw [List.getElem?_append_left y] at q
      rw [b2 _ (by omega)]
      exact a3 i x q r
    · rw [List.getElem?_append_right (by omega)] at q
      have z := b3 (i - L.length) x q (by omega)
      rw [show (Xi T k f).toNat + (i - L.length) = (Xi S k f).toNat + i by omega] at z
      exact z
theorem oup_e {c k f : Nat} {S T : sS} {L M : List Int} (h : OUP c k f S T L) (e : L = M) : OUP c k f S T M := e ▸ h
theorem oup_rf {c k f : Nat} {l : List rec} {S T U : sS} {L : List Int} (F : FR l S T) (e1 : mdf l k f = false) (e2 : kdis l [(c, c + 1)] = true) (h : OUP c k f T U L) : OUP c k f S U L := by
  obtain ⟨h1, h2, h3⟩ := h
  have x := F.x k f e1
  have y : ∀ j, Xi T c j = Xi S c j := fun j => (F.smk e2).x c (by show (Nat.ble c c && Nat.blt c (c + 1) || false) = true; rw [Nat.ble_eq_true_of_le (Nat.le_refl c), show Nat.blt c (c + 1) = true from Nat.ble_eq_true_of_le (Nat.le_refl _)]; rfl) j
  exact ⟨by rw [← x]; exact h1, fun j hj => by rw [← y]; exact h2 j (by omega), fun i a q r => by rw [← x]; exact h3 i a q (by omega)⟩
/-- both pages are the same -/
def EQO (U S : sS) : Prop := (Xi U 900 4 = Xi S 904 156 ∧ 0 ≤ Xi U 900 4 ∧ Xi U 900 4 ≤ 2000) ∧ ∀ j : Nat, (j : Int) < Xi U 900 4 → Xi U 901 j = Xi S 993 j
theorem eqo_w {U U1 S S1 : sS} {L : List Int} (h : EQO U S) (a : OUP 901 900 4 U U1 L) (b : OUP 993 904 156 S S1 L) : EQO U1 S1 := by
  obtain ⟨⟨h1, h2, h3⟩, h4⟩ := h
  obtain ⟨a1, a2, a3⟩ := a
  obtain ⟨b1, b2, b3⟩ := b
  refine ⟨by omega, fun j hj => ?_⟩
  by_cases q : (j : Int) < Xi U 900 4
  · rw [a2 j q, b2 j (by omega)]; exact h4 j q
  · have y : j - (Xi U 900 4).toNat < L.length := by omega
    have z := List.getElem?_eq_getElem y
    have u := a3 _ _ z (by omega)
    have v := b3 _ _ z (by omega)
    rw [show (Xi U 900 4).toNat + (j - (Xi U 900 4).toNat) = j by omega] at u
    rw [show (Xi S 904 156).toNat + (j - (Xi U 900 4).toNat) = j by omega] at v
    rw [u, v]
/-! texts, numbers -/
def txL (S : sS) (t : Nat) (a : Int) (n : Nat) : List Int := (List.range n).map (fun (i : Nat) => Xi S t (a + (i : Int)).toNat)
theorem txL_s {S : sS} {t : Nat} {a v : Int} (h : 0 ≤ v) : txL S t a (v + 1).toNat = txL S t a v.toNat ++ [Xi S t (a + v).toNat] := by
  unfold txL
  rw [show (v + 1).toNat = v.toNat + 1 by omega, List.range_succ, List.map_append]
  show _ ++ [Xi S t (a + ((v.toNat : Nat) : Int)).toNat] = _
  rw [show ((v.toNat : Nat) : Int) = v by omega]
theorem txL_0 {S : sS} {t : Nat} {a v : Int} (h : v ≤ 0) : txL S t a v.toNat = [] := by
  unfold txL
  rw [show v.toNat = 0 by omega]; rfl
theorem txL_r {U S : sS} {a n b m : Int} (h : TXQ U S a n b m) : txL U (txr U) a n.toNat = txL S 906 b m.toNat := by
  obtain ⟨e, g⟩ := h
  unfold txL
  rw [← e]
  refine List.map_congr_left (fun i hi => g i (by omega) ?_)
  have := List.mem_range.mp hi
  omega
/-- a number's digits from the k-th on -/
def dgN (a : Int) : Nat → List Int
  | 0 => [48 + a % 10]
  | k + 1 => (48 + a / 10 ^ (k + 1) % 10) :: dgN a k
def nmbL (v : Int) (k : Nat) : List Int := (if v < 0 then [45] else []) ++ dgN (if v < 0 then -v else v) k
/-- k is where a number begins -/
def NDG (a : Int) (k : Nat) : Prop := a / 10 ^ k ≤ 9 ∧ ∀ j : Nat, j < k → 9 < a / 10 ^ j
theorem ndg_u {a : Int} {k m : Nat} (h : NDG a k) (g : NDG a m) : k = m := by
  by_cases q : k < m
  · have := g.2 k q; have := h.1; omega
  · by_cases r : m < k
    · have := h.2 m r; have := g.1; omega
    · omega
theorem wtx_e {S : sS} {t : Nat} {f v n : Int} (h : v = n ∨ (v ≤ 0 ∧ n ≤ 0)) : txL S t f v.toNat = txL S t f n.toNat := by
  rcases h with h | h
  · rw [h]
  · rw [show v.toNat = 0 by omega, show n.toNat = 0 by omega]

/-! TURNS of the class as functions of states -/
def wrU (S : sS) (b : Int) : sS := if Xi S 900 4 < 2000 then uI (uI S 901 (Xi S 900 4).toNat (Int32.ofInt (b.bmod 256))) 900 4 (Int32.ofInt (Xi S 900 4 + 1)) else S
theorem wr_f {S : sS} {b : Int} (h : 2000 ≤ Xi S 900 4) : S = wrU S b := by unfold wrU; rw [if_neg (by omega)]
theorem wr_1 {S T U : sS} {b x : Int} (h : Xi S 900 4 < 2000) (e1 : T = uI S 901 (Xi S 900 4).toNat (Int32.ofInt x)) (ex : x = b.bmod 256) (e2 : U = uI T 900 4 (Int32.ofInt (Xi S 900 4 + 1))) : U = wrU S b := by
  unfold wrU; rw [if_pos h, e2, e1, ex]
def wlF (S : sS) (L : List Int) : sS := L.foldl wrU S
theorem wlF_0 {S : sS} : S = wlF S [] := rfl
theorem wlF_1 {S : sS} {b : Int} : wlF S [b] = wrU S b := rfl
theorem wlF_a {S : sS} {L M : List Int} : wlF S (L ++ M) = wlF (wlF S L) M := List.foldl_append
theorem wl_s {S T U : sS} {L : List Int} {b : Int} (h : T = wlF S L) (e : U = wrU T b) : U = wlF S (L ++ [b]) := by rw [wlF_a, ← h, wlF_1]; exact e
theorem wl_l {S T U : sS} {L M : List Int} (h : T = wlF S L) (e : U = wlF T M) : U = wlF S (L ++ M) := by rw [wlF_a, ← h]; exact e
/-- what a number is written as -/
def nmX (x : Int) (k : Nat) : List Int := if x = -2147483648 then [45, 40] else nmbL x k
def spF (S : sS) (o p v n : Int) : sS := uI (uI (uI S (66 + o.toNat) p.toNat (Int32.ofInt 1)) (107 + o.toNat) p.toNat (Int32.ofInt v)) (148 + o.toNat) p.toNat (Int32.ofInt n)
def saF (S : sS) (o a h : Int) : sS := if Xi S 11 a.toNat = -1 then uI S (25 + o.toNat) a.toNat (Int32.ofInt (if h = 0 then -1 else 1)) else uI (uI S (25 + o.toNat) a.toNat (Int32.ofInt (if h = 0 then -1 else 1))) (25 + o.toNat) (Xi S 11 a.toNat).toNat (Int32.ofInt (if h = 0 then 1 else -1))
theorem sa_i {S U : sS} {o a h v : Int} (e : U = uI S (25 + o.toNat) a.toNat (Int32.ofInt v)) (hv : (h = 0 ∧ v = -1) ∨ (h ≠ 0 ∧ v = 1)) (hc : Xi S 11 a.toNat = -1) : U = saF S o a h := by
  unfold saF; rw [if_pos hc, e]
  rcases hv with ⟨x, y⟩ | ⟨x, y⟩
  · rw [if_pos x, y]
  · rw [if_neg x, y]
theorem sa_j {S U W : sS} {o a h v u : Int} (e : U = uI S (25 + o.toNat) a.toNat (Int32.ofInt v)) (e2 : W = uI U (25 + o.toNat) (Xi S 11 a.toNat).toNat (Int32.ofInt u)) (hv : (h = 0 ∧ v = -1 ∧ u = 1) ∨ (h ≠ 0 ∧ v = 1 ∧ u = -1)) (hc : Xi S 11 a.toNat ≠ -1) : W = saF S o a h := by
  unfold saF; rw [if_neg hc, e2, e]
  rcases hv with ⟨x, y, z⟩ | ⟨x, y, z⟩
  · rw [if_pos x, if_pos x, y, z]
  · rw [if_neg x, if_neg x, y, z]
/-- related now -/
def rn1 (S : sS) (r a : Int) : sS := if Xi S 17 r.toNat = 0 then S else uI S (189 + r.toNat) a.toNat (Int32.ofInt 0)
def rn2 (S : sS) (r b : Int) : Nat → sS
  | 0 => S
  | i + 1 => if Xi S 16 r.toNat = 0 then S else uI (rn2 S r b i) (189 + r.toNat) i (Int32.ofInt (iandF (Xi (rn2 S r b i) (189 + r.toNat) i) (ixorF (ishlF 1 b) (-1))))
theorem rn2_n {S : sS} {r b : Int} (h : Xi S 16 r.toNat = 0) : ∀ i : Nat, rn2 S r b i = S
  | 0 => rfl
  | i + 1 => by unfold rn2; rw [if_pos h]
theorem rn2_s {S T U : sS} {r b v : Int} (h : T = rn2 S r b v.toNat) (hv : 0 ≤ v) (q : Xi S 16 r.toNat ≠ 0) (e : U = uI T (189 + r.toNat) v.toNat (Int32.ofInt (iandF (Xi T (189 + r.toNat) v.toNat) (ixorF (ishlF 1 b) (-1))))) : U = rn2 S r b (v + 1).toNat := by
  rw [show (v + 1).toNat = v.toNat + 1 by omega]; unfold rn2; rw [if_neg q, ← h]; exact e
def rnF (S : sS) (r a b : Int) : sS := uI (rn2 (rn1 S r a) r b 24) (189 + r.toNat) a.toNat (Int32.ofInt (iorF (Xi (rn2 (rn1 S r a) r b 24) (189 + r.toNat) a.toNat) (ishlF 1 b)))
theorem rn_e {S T : sS} {r b v : Int} (h : T = rn2 S r b v.toNat) (q : 24 = v ∨ Xi S 16 r.toNat = 0) : T = rn2 S r b 24 := by
  rcases q with q | q
  · rw [h, ← q]; rfl
  · rw [h, rn2_n q, rn2_n q]
/-- moved -/
def mhF (S : sS) (to : Int) : Int := if isK S (Xi S 21 to.toNat) 1 ≠ 0 ∨ isK S (Xi S 21 to.toNat) 2 ≠ 0 then 1 else if isK S (Xi S 21 to.toNat) 3 ≠ 0 then 2 else if isK S (Xi S 21 to.toNat) 4 ≠ 0 then 4 else 3
def mvF (S : sS) (who to : Int) : sS := if isK S (Xi S 21 who.toNat) 0 = 0 ∨ isW S to who ≠ 0 then S else plO S who (mhF S to) to
theorem mv_0 {S : sS} {who to : Int} (h : isK S (Xi S 21 who.toNat) 0 = 0 ∨ isW S to who ≠ 0) : S = mvF S who to := by unfold mvF; rw [if_pos h]
theorem mv_1 {S T : sS} {who to v : Int} (h : isK S (Xi S 21 who.toNat) 0 ≠ 0) (g : isW S to who = 0) (hv : v = mhF S to) (e : T = plO S who v to) : T = mvF S who to := by
  unfold mvF; rw [if_neg (by omega), e, hv]
theorem mh_1 {S : sS} {to : Int} (h : isK S (Xi S 21 to.toNat) 1 ≠ 0 ∨ isK S (Xi S 21 to.toNat) 2 ≠ 0) : (1 : Int) = mhF S to := by unfold mhF; rw [if_pos h]
theorem mh_2 {S : sS} {to : Int} (h1 : isK S (Xi S 21 to.toNat) 1 = 0) (h2 : isK S (Xi S 21 to.toNat) 2 = 0) (h3 : isK S (Xi S 21 to.toNat) 3 ≠ 0) : (2 : Int) = mhF S to := by unfold mhF; rw [if_neg (by omega), if_pos h3]
theorem mh_4 {S : sS} {to : Int} (h1 : isK S (Xi S 21 to.toNat) 1 = 0) (h2 : isK S (Xi S 21 to.toNat) 2 = 0) (h3 : isK S (Xi S 21 to.toNat) 3 = 0) (h4 : isK S (Xi S 21 to.toNat) 4 ≠ 0) : (4 : Int) = mhF S to := by unfold mhF; rw [if_neg (by omega), if_neg (by omega), if_pos h4]
theorem mh_3 {S : sS} {to : Int} (h1 : isK S (Xi S 21 to.toNat) 1 = 0) (h2 : isK S (Xi S 21 to.toNat) 2 = 0) (h3 : isK S (Xi S 21 to.toNat) 3 = 0) (h4 : isK S (Xi S 21 to.toNat) 4 = 0) : (3 : Int) = mhF S to := by unfold mhF; rw [if_neg (by omega), if_neg (by omega), if_neg (by omega)]
/-! NUMBERS as they are written, for both sides: P says what was written so far -/
def sgL (x : Int) : List Int := if x < 0 then [45] else []
def UNT (a v : Int) : Prop := ∃ k : Nat, v = 10 ^ k ∧ ∀ j : Nat, j < k → 9 < a / 10 ^ j
theorem p10_pos (k : Nat) : (0 : Int) < 10 ^ k := Int.pow_pos (by decide)
theorem p10_c {a p : Int} (hp : 0 < p) : p ≤ a / 10 ↔ 9 < a / p := by
  rw [Int.le_ediv_iff_mul_le (by decide)]
  have e : 9 < a / p ↔ 10 ≤ a / p := by omega
  rw [e, Int.le_ediv_iff_mul_le hp, Int.mul_comm]
def NM1 (P : List Int → Prop) (x a v : Int) : Prop := P (sgL x) ∧ ((x ≠ -2147483648 ∧ a = (if x < 0 then -x else x) ∧ UNT a v) ∨ (x = -2147483648 ∧ a = -2147483648 ∧ v = 1))
def NMJ (P : List Int → Prop) (x a v : Int) : Prop := (x ≠ -2147483648 ∧ a = (if x < 0 then -x else x) ∧ ∃ (K : Nat) (L : List Int), NDG a K ∧ P (sgL x ++ L) ∧ ((∃ m : Nat, v = 10 ^ m ∧ L ++ dgN a m = dgN a K) ∨ (v = 0 ∧ L = dgN a K))) ∨ (x = -2147483648 ∧ a = -2147483648 ∧ ((v = 1 ∧ P [45]) ∨ (v = 0 ∧ P [45, 40])))
def NMZ (P : List Int → Prop) (x : Int) : Prop := ∃ k : Nat, (x ≠ -2147483648 → NDG (if x < 0 then -x else x) k) ∧ P (nmX x k)
theorem nm1_0 {P : List Int → Prop} {x a : Int} (h : P (sgL x)) (h1 : 0 ≤ x → a = x) (h2 : x < 0 → -2147483648 < x → a = -x) (h3 : x = -2147483648 → a = -2147483648) (hx : -2147483648 ≤ x) : NM1 P x a 1 := by
  refine ⟨h, ?_⟩
  by_cases q : x = -2147483648
  · exact Or.inr ⟨q, h3 q, rfl⟩
  · refine Or.inl ⟨q, ?_, 0, rfl, fun j hj => by omega⟩
    by_cases r : x < 0
    · rw [if_pos r]; exact h2 r (by omega)
    · rw [if_neg r]; exact h1 (by omega)
theorem nm1_s {P : List Int → Prop} {x a v : Int} (h : NM1 P x a v) (hx : x ≠ -2147483648) (g : 9 < a / v) : NM1 P x a (v * 10) := by
  refine ⟨h.1, ?_⟩
  rcases h.2 with ⟨h1, h2, k, h3, h4⟩ | ⟨h1, _⟩
  · refine Or.inl ⟨h1, h2, k + 1, by rw [h3, Int.pow_succ], fun j hj => ?_⟩
    by_cases q : j = k
    · rw [q, ← h3]; exact g
    · exact h4 j (by omega)
  · exact absurd h1 hx
theorem nm1_g {P : List Int → Prop} {x a v : Int} (h : NM1 P x a v) (g : x ≠ -2147483648 → ¬ 9 < a / v) : NMJ P x a v := by
  rcases h.2 with ⟨h1, h2, k, h3, h4⟩ | ⟨h1, h2, h3⟩
  · exact Or.inl ⟨h1, h2, k, [], ⟨by have := g h1; rw [h3] at this; omega, h4⟩, by rw [List.append_nil]; exact h.1, Or.inl ⟨k, h3, rfl⟩⟩
  · refine Or.inr ⟨h1, h2, Or.inl ⟨h3, ?_⟩⟩
    have t := h.1
    unfold sgL at t
    rw [if_pos (by omega)] at t
    exact t
theorem nmi_s {P Q : List Int → Prop} {x a v c w : Int} (h : NMJ P x a v) (hv : 0 < v) (hc : x ≠ -2147483648 → c = 48 + a / v % 10) (hm : x = -2147483648 → c = 40) (hw : w = v / 10) (f : ∀ L, P L → Q (L ++ [c])) : NMJ Q x a w := by
  rcases h with ⟨h1, h2, K, L, h3, h4, h5⟩ | ⟨h1, h2, h3⟩
  · refine Or.inl ⟨h1, h2, K, L ++ [c], h3, by rw [← List.append_assoc]; exact f _ h4, ?_⟩
    rcases h5 with ⟨m, h5, h6⟩ | ⟨h5, _⟩
    · cases m with
      | zero =>
        refine Or.inr ⟨by rw [hw, h5]; decide, ?_⟩
        rw [← h6, hc h1, h5]
        show _ = L ++ [48 + a % 10]
        rw [show a / 10 ^ 0 = a by rw [Int.pow_zero, Int.ediv_one]]
      | succ m =>
        refine Or.inl ⟨m, ?_, ?_⟩
        · rw [hw, h5, Int.pow_succ, Int.mul_ediv_cancel _ (by decide)]
        · rw [List.append_assoc, ← h6, hc h1, h5]; rfl
    · omega
  · refine Or.inr ⟨h1, h2, Or.inr ?_⟩
    rcases h3 with ⟨h3, h4⟩ | ⟨h3, _⟩
    · refine ⟨by rw [hw, h3]; decide, ?_⟩
      have t := f _ h4
      rw [hm h1] at t
      exact t
    · omega
theorem nmi_e {P : List Int → Prop} {x a v : Int} (h : NMJ P x a v) (hv : v ≤ 0) : NMZ P x := by
  rcases h with ⟨h1, h2, K, L, h3, h4, h5⟩ | ⟨h1, h2, h3⟩
  · rcases h5 with ⟨m, h5, _⟩ | ⟨_, h5⟩
    · have := p10_pos m; omega
    · refine ⟨K, fun _ => by rw [← h2]; exact h3, ?_⟩
      unfold nmX nmbL
      rw [if_neg h1, ← h2, ← h5]
      exact h4
  · rcases h3 with ⟨h3, _⟩ | ⟨_, h3⟩
    · omega
    · refine ⟨0, fun q => absurd h1 q, ?_⟩
      unfold nmX
      rw [if_pos h1]; exact h3
theorem nmi_w {P : List Int → Prop} {x a v w : Int} (h : NMJ P x a v) (e : w = v) : NMJ P x a w := by rw [e]; exact h
/-! one more thing that is known of absolute values, quotients, remainders -/
section
variable {lay : Nat → Nat × Nat} {d pc : Nat} {q : mT} {L : List (Nat × Value)} {st : List Value} {S : sS} {Q : pst}
theorem l_idivE {x y : Int} (hc : lk q.2.2.2.2.2 pc = some .idiv) (h1 : 0 < y) (hx : rg x) (hy : rg y) (h : ∀ c : Int, (-2147483648 ≤ c ∧ c ≤ 2147483647) → (0 ≤ x → c = x / y) → (x < 0 → x ≤ c ∧ c ≤ 0) → (x = -2147483648 → y = 1 → c = -2147483648) → Rl lay d q (pc + 1) L (iv c :: st) S Q) : Rl lay d q pc L (iv y :: iv x :: st) S Q :=
  Rl_s hc rfl (fun lv ha => ⟨lv, by
    show (bif decide (¬ Int32.ofInt y = 0) then some (pc + 1, lv, Value.int (Int32.ofInt x / Int32.ofInt y) :: st, S) else none) = _
    rw [nz32 (by omega) hy, ← ofI_toI (v := Int32.ofInt x / Int32.ofInt y), div32 h1 hx hy]; rfl, ha⟩) (by
    have t := tdv (x := x) h1
    unfold rg at hx
    exact h _ (by omega) (fun a => (t.1 a).1) (fun a => t.2 a) (fun a b => by rw [a, b]; rfl))
theorem l_iaddE {x y : Int} (hc : lk q.2.2.2.2.2 pc = some .iadd) (h : ∀ c : Int, (-2147483648 ≤ c ∧ c ≤ 2147483647) → (-2147483648 ≤ x + y → x + y ≤ 2147483647 → c = x + y) → Rl lay d q (pc + 1) L (iv c :: st) S Q) : Rl lay d q pc L (iv y :: iv x :: st) S Q :=
  Rl_s hc rfl (fun lv ha => ⟨lv, by
    show some (pc + 1, lv, Value.int (Int32.ofInt x + Int32.ofInt y) :: st, S) = _
    rw [← ofI_toI (v := Int32.ofInt x + Int32.ofInt y)]; rfl, ha⟩) (h _ ⟨rg_toI.1, Int.le_of_lt_add_one rg_toI.2⟩ (fun a b => by rw [← Int32.ofInt_add, toI ⟨by omega, by omega⟩]))
theorem l_iremE {x y : Int} (hc : lk q.2.2.2.2.2 pc = some .irem) (h1 : 0 < y) (hx : rg x) (hy : rg y) (h : ∀ c : Int, (-2147483648 ≤ c ∧ c ≤ 2147483647) → (0 ≤ x → c = x % y) → True → (x = -2147483648 → y = 10 → c = -8) → Rl lay d q (pc + 1) L (iv c :: st) S Q) : Rl lay d q pc L (iv y :: iv x :: st) S Q :=
  Rl_s hc rfl (fun lv ha => ⟨lv, by
    show (bif decide (¬ Int32.ofInt y = 0) then some (pc + 1, lv, Value.int (Int32.ofInt x - Int32.ofInt x / Int32.ofInt y * Int32.ofInt y) :: st, S) else none) = _
    rw [nz32 (by omega) hy, ← ofI_toI (v := Int32.ofInt x - Int32.ofInt x / Int32.ofInt y * Int32.ofInt y)]; rfl, ha⟩) (h _ ⟨rg_toI.1, Int.le_of_lt_add_one rg_toI.2⟩ (fun h0 => by
    have e : Int32.ofInt x - Int32.ofInt x / Int32.ofInt y * Int32.ofInt y = Int32.ofInt (x % y) := by
      rw [← ofI_toI (v := Int32.ofInt x / Int32.ofInt y), div32 h1 hx hy, ← Int32.ofInt_mul, ← Int32.ofInt_sub, rem_e h0 h1]
    have b := Int.emod_lt_of_pos x h1
    have c := Int.emod_nonneg x (by omega : y ≠ 0)
    rw [e, toI ⟨by omega, by unfold rg at hy; omega⟩]) trivial (fun a b => by rw [a, b]; decide))
theorem l_absE {ix na : Nat} {md : mT} {x : Int} (hc : lk q.2.2.2.2.2 pc = some (.invokestatic ix)) (hk : kLs q.2.2.2.2.1 ix = some (12, md, na)) (hs : Nat.ble (st.map (fun v => v.category)).sum 8 = true) (hx : rg x)
    (h : ∀ c : Int, (-2147483648 ≤ c ∧ c ≤ 2147483647) → (0 ≤ x → c = x) → (x < 0 → -2147483648 < x → c = -x) → (x = -2147483648 → c = -2147483648) → Rl lay d q (pc + 3) L (iv c :: st) S Q) : Rl lay d q pc L (iv x :: st) S Q := by
  by_cases e : x = -2147483648
  · have hz : ¬ (0 : Int32) ≤ Int32.ofInt x := by rw [e]; decide
    have h1 := h (if (0 : Int32) ≤ Int32.ofInt x then Int32.ofInt x else 0 - Int32.ofInt x).toInt ⟨rg_toI.1, Int.le_of_lt_add_one rg_toI.2⟩ (fun a => by omega) (fun a b => by omega) (fun _ => by rw [if_neg hz, e]; decide)
    intro lv ha
    obtain ⟨N, r, S1, hr, hq⟩ := h1 lv ha
    refine ⟨N + 1, r, S1, fun F G hF hG => ?_, hq⟩
    obtain ⟨F, rfl⟩ : ∃ F1, F = F1 + 1 := ⟨F - 1, by omega⟩
    have e := hr F G (by omega) (by omega)
    unfold run
    rw [hc]
    simp only [hk]
    show (bif Nat.ble (st.map (fun v => v.category)).sum 8 then run lay (fLs q.2.2.2.2.1) (cLs q.2.2.2.2.1) (kLs q.2.2.2.2.1) q.2.2.1 q.2.2.2.1 (evd lay G d) q.2.2.2.2.2 F (pc + 3) lv (.int (if (0 : Int32) ≤ Int32.ofInt x then Int32.ofInt x else 0 - Int32.ofInt x) :: st) S else none) = _
    rw [hs, ← ofI_toI (v := if (0 : Int32) ≤ Int32.ofInt x then Int32.ofInt x else 0 - Int32.ofInt x)]
    exact e
  · exact l_abs hc hk hs hx (fun c a b c2 => h c a b c2 (fun q => absurd q e))
end

def md_tu_write__w : List rec := [(900, 901, 4, 5), (901, 902, 0, 100000)]
abbrev Q_tu_write__w (S : sS) (b : Int) : pst := fun r S1 => HI S1 ∧ FR md_tu_write__w S S1 ∧ (r = none ∧ (S1 = wrU S b))
set_option maxRecDepth 100000 in
theorem t_tu_write__w {S : sS} (hH : HI S) (b : Int) (hb : -2147483648 ≤ b ∧ b ≤ 2147483647) (d : Nat) : Mt lay0 (d + 1) m_tu_write [.ref 900, iv b] S (Q_tu_write__w S b) := by
  refine Mt_R rfl rfl ?_
  have hF : FR md_tu_write__w S S := FR.rf
  refine l_aload_n rfl rfl ?_
  refine l_gfi rfl rfl rfl rfl rfl ?_
  have w1 : 0 ≤ (Xi S 900 4) ∧ (Xi S 900 4) ≤ 2000 := hH.c _ _
  refine l_sipush rfl rfl ?_
  refine l_icmp_ge rfl rfl (by unfold rg; omega) (by unfold rg; omega) (fun w2 => ?_) (fun w3 => ?_)
  · refine l_return rfl rfl ?_
    exact ⟨hH, hF, rfl, (by first | exact wr_f (by omega) | exact wr_1 (by omega)  (by have t := bmod_c (x := b); omega) rfl)⟩
  · refine l_aload_n rfl rfl ?_
    refine l_gfr rfl rfl rfl rfl rfl (hH.r 900 3 901 rfl) ?_
    refine l_aload_n rfl rfl ?_
    refine l_gfi rfl rfl rfl rfl rfl ?_
    refine l_iload_n rfl rfl ?_
    refine l_i2b rfl (fun c4 w4 => ?_)
    refine l_bastoreB1 (n := 2000) rfl rfl (by omega) (by omega) (by unfold rg; omega) ⟨by omega, by omega⟩ ?_
    obtain ⟨U1, eU1⟩ : ∃ T : sS, T = uI S 901 (((Xi S 900 4)).toNat) (Int32.ofInt c4) := ⟨_, rfl⟩
    rw [← eU1]
    have hHU1 : HI U1 := by rw [eU1]; exact HI_w hH (show -128 ≤ c4 by omega) (show c4 ≤ 127 by omega)
    have hFU1 : FR md_tu_write__w S U1 := by rw [eU1]; exact FR.wI hF (mdf_i (r := (901, 902, 0, 100000)) (List.mem_of_getElem? (i := 1) rfl) (inR_i (by omega) (by omega) (by omega) (by omega)))
    have w5 : Xi U1 901 (((Xi S 900 4)).toNat) = c4 := by rw [eU1]; exact Xi_same (by unfold rg; omega)
    refine l_aload_n rfl rfl ?_
    refine l_dup rfl rfl ?_
    refine l_gfi rfl rfl rfl rfl rfl ?_
    have w6 : (Xi U1 900 4) = (Xi S 900 4) := (show Xi U1 900 4 = Xi S 900 4 from by rw [eU1]; exact Xi_ne (by omega))
    rw [w6]
    refine l_iconst rfl ?_
    refine l_iadd rfl ?_
    refine l_pfi rfl rfl rfl rfl ?_
    obtain ⟨U2, eU2⟩ : ∃ T : sS, T = uI U1 900 4 (Int32.ofInt ((Xi S 900 4) + 1)) := ⟨_, rfl⟩
    rw [← eU2]
    have hHU2 : HI U2 := by rw [eU2]; exact HI_w hHU1 (show 0 ≤ ((Xi S 900 4) + 1) by omega) (show ((Xi S 900 4) + 1) ≤ 2000 by omega)
    have hFU2 : FR md_tu_write__w S U2 := by rw [eU2]; exact FR.wI hFU1 (mdf_i (r := (900, 901, 4, 5)) (List.mem_of_getElem? (i := 0) rfl) (inR_i (by omega) (by omega) (by omega) (by omega)))
    have w7 : Xi U2 900 4 = ((Xi S 900 4) + 1) := by rw [eU2]; exact Xi_same (by unfold rg; omega)
    refine l_return rfl rfl ?_
    exact ⟨hHU2, hFU2, rfl, (by first | exact wr_f (by omega) | exact wr_1 (by omega) eU1 (by have t := bmod_c (x := b); omega) eU2)⟩
def md_tu_writeText__w : List rec := [(900, 901, 4, 5), (901, 902, 0, 100000)]
abbrev Q_tu_writeText__w (S : sS) (f : Int) (n : Int) : pst := fun r S1 => HI S1 ∧ FR md_tu_writeText__w S S1 ∧ (r = none ∧ (S1 = wlF S (txL S (txr S) f n.toNat)))
set_option maxRecDepth 100000 in
theorem t_tu_writeText__w {S : sS} (hH : HI S) (f : Int) (n : Int) (hf : -2147483648 ≤ f ∧ f ≤ 2147483647) (hn : -2147483648 ≤ n ∧ n ≤ 2147483647) (hx : TXT S f n) (d : Nat) : Mt lay0 (d + 2) m_tu_writeText [.ref 900, iv f, iv n] S (Q_tu_writeText__w S f n) := by
  refine Mt_R rfl rfl ?_
  have hF : FR md_tu_writeText__w S S := FR.rf
  have hxb : 0 < n → 0 ≤ f ∧ f + n ≤ 5000 := hx.b
  have C2 : ∀ (n2 : Nat) (T1 : sS) (_ : HI T1) (_ : FR md_tu_writeText__w S T1) (v3 : Int), (0 ≤ v3 ∧ v3 ≤ 5000) → (v3 ≤ n ∨ v3 ≤ 0) → (T1 = wlF S (txL S (txr S) f v3.toNat)) → n2 = (5001 - v3).toNat → Rl lay0 (d + 1) m_tu_writeText 2 [(0, .ref 900), (1, iv f), (2, iv n), (3, iv v3)] [] T1 (Q_tu_writeText__w S f n) := by
    intro n2
    induction n2 using Nat.strongRecOn with
    | ind n2 ih2 =>
      intro T1 hHT1 hFT1 v3 w1 w2 o2 hm2
      refine l_iload_n rfl rfl ?_
      refine l_iload_n rfl rfl ?_
      refine l_icmp_ge rfl rfl (by unfold rg; omega) (by unfold rg; omega) (fun w3 => ?_) (fun w4 => ?_)
      · refine l_return rfl rfl ?_
        exact ⟨hHT1, hFT1, rfl, (by rw [← show txL S (txr S) f v3.toNat = txL S (txr S) f n.toNat from wtx_e (by omega)]; exact o2)⟩
      · refine l_aload_n rfl rfl ?_
        refine l_aload_n rfl rfl ?_
        refine l_gfr rfl rfl rfl rfl rfl (hHT1.r 900 1 20 rfl) ?_
        have w5 := txe (S := T1) (TXT_eq (hFT1 20 1 rfl).2.2 hx) (by omega)
        have w5b : tp (txr T1) := w5.2
        refine l_gfr rfl rfl rfl rfl rfl w5.1 ?_
        refine l_iload_n rfl rfl ?_
        refine l_iload_n rfl rfl ?_
        refine l_iadd rfl ?_
        refine l_baload (n := 5000) rfl (tp_sv (by assumption)) (lay_tp (by assumption)) (by decide) (by omega) (by omega) (by unfold rg; omega) ?_
        have w6 : -128 ≤ (Xi T1 (txr T1) (((f + v3)).toNat)) ∧ (Xi T1 (txr T1) (((f + v3)).toNat)) ≤ 127 := tpc hHT1 (by assumption)
        have b18 : (Xi T1 (txr T1) (((f + v3)).toNat)) = Xi S (txr S) (f + v3).toNat := txb hFT1 rfl rfl (by assumption)
        refine l_callV rfl rfl rfl (t_tu_write__w hHT1 (Xi T1 (txr T1) (((f + v3)).toNat)) ⟨by omega, by omega⟩ _) ?_
        rintro _ T2 ⟨hHT2, w8, rfl, e19⟩
        have hFT2 : FR md_tu_writeText__w S T2 := FR.tr hFT1 w8 rfl
        show Rl _ _ _ _ _ [] _ _
        have O19 : T2 = wlF S (txL S (txr S) f (v3 + 1).toNat) := by rw [txL_s (by omega), ← b18]; exact wl_s o2 e19
        refine l_iinc rfl rfl rfl rfl ?_
        refine l_goto rfl rfl ?_
        exact Rl_weak (ih2 _ (by omega) T2 hHT2 hFT2 ((v3 + 1)) (by omega) (by omega) (by first | exact O19 | (rw [txL_0 (by omega)]; exact wlF_0)) rfl) (And.intro rfl (And.intro rfl (And.intro rfl (And.intro rfl (True.intro)))))
  refine l_iconst rfl ?_
  refine l_istore_n rfl rfl rfl ?_
  exact Rl_weak (C2 _ S hH hF (0) (by omega) (by omega) (by first | exact O19 | (rw [txL_0 (by omega)]; exact wlF_0)) rfl) (And.intro rfl (And.intro rfl (And.intro rfl (And.intro rfl (True.intro)))))
def md_tu_writeNumber__w : List rec := [(900, 901, 4, 5), (901, 902, 0, 100000)]
abbrev Q_tu_writeNumber__w (S : sS) (x : Int) : pst := fun r S1 => HI S1 ∧ FR md_tu_writeNumber__w S S1 ∧ (r = none ∧ (NMZ (fun L => S1 = wlF S L) x))
set_option maxRecDepth 100000 in
theorem t_tu_writeNumber__w {S : sS} (hH : HI S) (x : Int) (hx : -2147483648 ≤ x ∧ x ≤ 2147483647) (d : Nat) : Mt lay0 (d + 2) m_tu_writeNumber [.ref 900, iv x] S (Q_tu_writeNumber__w S x) := by
  refine Mt_R rfl rfl ?_
  have hF : FR md_tu_writeNumber__w S S := FR.rf
  have C15 : ∀  (T1 : sS) (_ : HI T1) (_ : FR md_tu_writeNumber__w S T1) (v2 : Int), (-2147483648 ≤ v2 ∧ v2 ≤ 2147483647) → (T1 = wlF S (sgL x)) → ((0 ≤ x → v2 = x) ∧ (x < 0 → -2147483648 < x → v2 = -x) ∧ (x = -2147483648 → v2 = -2147483648)) → Rl lay0 (d + 1) m_tu_writeNumber 15 [(0, .ref 900), (2, iv v2)] [] T1 (Q_tu_writeNumber__w S x) := by
    intro T1 hHT1 hFT1 v2 w1 n15 w2
    have C17 : ∀ (n17 : Nat) (v2 : Int) (v3 : Int), (-2147483648 ≤ v2 ∧ v2 ≤ 2147483647) → (0 ≤ v3 ∧ v3 ≤ 2147483647) → (1 ≤ v3) → (NM1 (fun L => T1 = wlF S L) x v2 v3) → ((0 ≤ x → v2 = x) ∧ (x < 0 → -2147483648 < x → v2 = -x) ∧ (x = -2147483648 → v2 = -2147483648)) → (x = -2147483648 → v3 ≤ 1) → n17 = (2147483648 - v3).toNat → Rl lay0 (d + 1) m_tu_writeNumber 17 [(0, .ref 900), (2, iv v2), (3, iv v3)] [] T1 (Q_tu_writeNumber__w S x) := by
      intro n17
      induction n17 using Nat.strongRecOn with
      | ind n17 ih17 =>
        intro v2 v3 w3 w4 w5 n17 w6 w7 hm17
        have C33 : ∀ (n33 : Nat) (T2 : sS) (_ : HI T2) (_ : FR md_tu_writeNumber__w S T2) (v2 : Int) (v3 : Int), (-2147483648 ≤ v2 ∧ v2 ≤ 2147483647) → (0 ≤ v3 ∧ v3 ≤ 2147483647) → (0 ≤ v3) → (NMJ (fun L => T2 = wlF S L) x v2 v3) → ((0 ≤ x → v2 = x) ∧ (x < 0 → -2147483648 < x → v2 = -x) ∧ (x = -2147483648 → v2 = -2147483648)) → (x = -2147483648 → v3 ≤ 1) → n33 = (v3).toNat → Rl lay0 (d + 1) m_tu_writeNumber 33 [(0, .ref 900), (2, iv v2), (3, iv v3)] [] T2 (Q_tu_writeNumber__w S x) := by
          intro n33
          induction n33 using Nat.strongRecOn with
          | ind n33 ih33 =>
            intro T2 hHT2 hFT2 v2 v3 w8 w9 w10 n33 w11 w12 hm33
            refine l_iload_n rfl rfl ?_
            refine l_if_le rfl rfl (by unfold rg; omega) (fun w13 => ?_) (fun w14 => ?_)
            · refine l_return rfl rfl ?_
              exact ⟨hHT2, hFT2, rfl, (nmi_e n33 (by omega))⟩
            · refine l_aload_n rfl rfl ?_
              refine l_bipush rfl rfl ?_
              refine l_iload_n rfl rfl ?_
              refine l_iload_n rfl rfl ?_
              refine l_idivE rfl (by omega) (by unfold rg; omega) (by unfold rg; omega) (fun c15 w15 w15b w15c w15d => ?_)
              have d42 : 0 ≤ v2 → 0 ≤ v2 / v3 := fun h => Int.ediv_nonneg h (by omega)
              refine l_bipush rfl rfl ?_
              refine l_iremE rfl (by omega) (by unfold rg; omega) (by unfold rg; omega) (fun c16 w16 w16b w16c w16d => ?_)
              refine l_iaddE rfl (fun c17 w17 w17d => ?_)
              refine l_callV rfl rfl rfl (t_tu_write__w hHT2 c17 ⟨by omega, by omega⟩ _) ?_
              rintro _ T3 ⟨hHT3, w19, rfl, e47⟩
              have hFT3 : FR md_tu_writeNumber__w S T3 := FR.tr hFT2 w19 rfl
              show Rl _ _ _ _ _ [] _ _
              have N47 : NMJ (fun L => T3 = wlF S L) x v2 (v3 / 10) := nmi_s n33 (by omega) (fun q => by omega) (fun q => by omega) rfl (fun L h => wl_s h e47)
              refine l_iload_n rfl rfl ?_
              refine l_bipush rfl rfl ?_
              refine l_idivE rfl (by omega) (by unfold rg; omega) (by unfold rg; omega) (fun c20 w20 w20b w20c w20d => ?_)
              refine l_istore_n rfl rfl rfl ?_
              refine l_goto rfl rfl ?_
              exact Rl_weak (ih33 _ (by omega) T3 hHT3 hFT3 (v2) (c20) (by omega) (by omega) (by omega) (by first | exact nmi_w N47 (by omega) | exact nm1_g n17 (fun q h => by have := (p10_c (by omega)).2 h; omega)) (by omega) (by omega) rfl) (And.intro rfl (And.intro rfl (And.intro rfl (True.intro))))
        refine l_iload_n rfl rfl ?_
        refine l_iload_n rfl rfl ?_
        refine l_bipush rfl rfl ?_
        refine l_idivE rfl (by omega) (by unfold rg; omega) (by unfold rg; omega) (fun c21 w21 w21b w21c w21d => ?_)
        refine l_icmp_gt rfl rfl (by unfold rg; omega) (by unfold rg; omega) (fun w22 => ?_) (fun w23 => ?_)
        · exact Rl_weak (C33 _ T1 hHT1 hFT1 (v2) (v3) (by omega) (by omega) (by omega) (by first | exact nmi_w N47 (by omega) | exact nm1_g n17 (fun q h => by have := (p10_c (by omega)).2 h; omega)) (by omega) (by omega) rfl) (And.intro rfl (And.intro rfl (And.intro rfl (True.intro))))
        · refine l_iload_n rfl rfl ?_
          refine l_bipush rfl rfl ?_
          refine l_imul rfl ?_
          refine l_istore_n rfl rfl rfl ?_
          refine l_goto rfl rfl ?_
          exact Rl_weak (ih17 _ (by omega) (v2) ((v3 * 10)) (by omega) (by omega) (by omega) (by first | exact nm1_s n17 (by omega) ((p10_c (by omega)).1 (by omega)) | exact nm1_0 n15 (by omega) (by omega) (by omega) (by omega)) (by omega) (by omega) rfl) (And.intro rfl (And.intro rfl (And.intro rfl (True.intro))))
    refine l_iconst rfl ?_
    refine l_istore_n rfl rfl rfl ?_
    exact Rl_weak (C17 _ (v2) (1) (by omega) (by omega) (by omega) (by first | exact nm1_s n17 (by omega) ((p10_c (by omega)).1 (by omega)) | exact nm1_0 n15 (by omega) (by omega) (by omega) (by omega)) (by omega) (by omega) rfl) (And.intro rfl (And.intro rfl (And.intro rfl (True.intro))))
  refine l_iload_n rfl rfl ?_
  refine l_absE rfl rfl rfl (by unfold rg; omega) (fun c24 w24 w24b w24c w24d => ?_)
  refine l_istore_n rfl rfl rfl ?_
  refine l_iload_n rfl rfl ?_
  refine l_if_ge rfl rfl (by unfold rg; omega) (fun w25 => ?_) (fun w26 => ?_)
  · exact Rl_weak (C15 S hH hF (c24) (by omega) (by first | exact N12 | (unfold sgL; rw [if_neg (by omega)]; rfl)) (by omega)) (And.intro rfl (And.intro rfl (True.intro)))
  · refine l_aload_n rfl rfl ?_
    refine l_bipush rfl rfl ?_
    refine l_callV rfl rfl rfl (t_tu_write__w hH 45 ⟨by omega, by omega⟩ _) ?_
    rintro _ T4 ⟨hHT4, w28, rfl, e12⟩
    have hFT4 : FR md_tu_writeNumber__w S T4 := FR.tr hF w28 rfl
    show Rl _ _ _ _ _ [] _ _
    have N12 : T4 = wlF S (sgL x) := by unfold sgL; rw [if_pos (by omega)]; exact e12
    exact Rl_weak (C15 T4 hHT4 hFT4 (c24) (by omega) (by first | exact N12 | (unfold sgL; rw [if_neg (by omega)]; rfl)) (by omega)) (And.intro rfl (And.intro rfl (True.intro)))
def md_wo_setProperty__w : List rec := [(66, 106, 0, 100000), (107, 147, 0, 100000), (148, 188, 0, 100000)]
abbrev Q_wo_setProperty__w (S : sS) (row : Int) (p : Int) (value : Int) (length : Int) : pst := fun r S1 => HI S1 ∧ FR md_wo_setProperty__w S S1 ∧ (r = none ∧ (TX S → TXT S value length → TX S1) ∧ (S1 = spF S row p value length))
set_option maxRecDepth 100000 in
theorem t_wo_setProperty__w {S : sS} (hH : HI S) (row : Int) (p : Int) (value : Int) (length : Int) (hrow : 0 ≤ row ∧ row ≤ 39) (hp : 0 ≤ p ∧ p ≤ 11) (hvalue : -2147483648 ≤ value ∧ value ≤ 2147483647) (hlength : -2147483648 ≤ length ∧ length ≤ 2147483647) (d : Nat) : Mt lay0 (d + 1) m_wo_setProperty [.ref 20, iv row, iv p, iv value, iv length] S (Q_wo_setProperty__w S row p value length) := by
  refine Mt_R rfl rfl ?_
  have hF : FR md_wo_setProperty__w S S := FR.rf
  refine l_aload_n rfl rfl ?_
  refine l_gfr rfl rfl rfl rfl rfl (hH.r 20 6 65 rfl) ?_
  refine l_iload_n rfl rfl ?_
  refine l_aaload (n := 40) (a := 66 + (row).toNat) rfl rfl (by decide) (by omega) (by omega) (by unfold rg; omega) (RW_65 hH (by omega)) ?_
  refine l_iload_n rfl rfl ?_
  refine l_iconst rfl ?_
  refine l_iastore (n := 12) rfl (lay_66 (by omega)) (by omega) (by omega) (by unfold rg; omega) ?_
  obtain ⟨U1, eU1⟩ : ∃ T : sS, T = uI S (66 + (row).toNat) ((p).toNat) (Int32.ofInt 1) := ⟨_, rfl⟩
  rw [← eU1]
  have hHU1 : HI U1 := by rw [eU1]; exact HI_any hH (lh_row66 (by omega))
  have hFU1 : FR md_wo_setProperty__w S U1 := by rw [eU1]; exact FR.wI hF (mdf_i (r := (66, 106, 0, 100000)) (List.mem_of_getElem? (i := 0) rfl) (inR_i (by omega) (by omega) (by omega) (by omega)))
  have w1 : Xi U1 (66 + (row).toNat) ((p).toNat) = 1 := by rw [eU1]; exact Xi_same (by unfold rg; omega)
  refine l_aload_n rfl rfl ?_
  refine l_gfr rfl rfl rfl rfl rfl (hHU1.r 20 7 106 rfl) ?_
  refine l_iload_n rfl rfl ?_
  refine l_aaload (n := 40) (a := 107 + (row).toNat) rfl rfl (by decide) (by omega) (by omega) (by unfold rg; omega) (RW_106 hHU1 (by omega)) ?_
  refine l_iload_n rfl rfl ?_
  refine l_iload_n rfl rfl ?_
  refine l_iastore (n := 12) rfl (lay_107 (by omega)) (by omega) (by omega) (by unfold rg; omega) ?_
  obtain ⟨U2, eU2⟩ : ∃ T : sS, T = uI U1 (107 + (row).toNat) ((p).toNat) (Int32.ofInt value) := ⟨_, rfl⟩
  rw [← eU2]
  have hHU2 : HI U2 := by rw [eU2]; exact HI_any hHU1 (lh_row107 (by omega))
  have hFU2 : FR md_wo_setProperty__w S U2 := by rw [eU2]; exact FR.wI hFU1 (mdf_i (r := (107, 147, 0, 100000)) (List.mem_of_getElem? (i := 1) rfl) (inR_i (by omega) (by omega) (by omega) (by omega)))
  have w2 : Xi U2 (107 + (row).toNat) ((p).toNat) = value := by rw [eU2]; exact Xi_same (by unfold rg; omega)
  refine l_aload_n rfl rfl ?_
  refine l_gfr rfl rfl rfl rfl rfl (hHU2.r 20 8 147 rfl) ?_
  refine l_iload_n rfl rfl ?_
  refine l_aaload (n := 40) (a := 148 + (row).toNat) rfl rfl (by decide) (by omega) (by omega) (by unfold rg; omega) (RW_147 hHU2 (by omega)) ?_
  refine l_iload_n rfl rfl ?_
  refine l_iload rfl rfl ?_
  refine l_iastore (n := 12) rfl (lay_148 (by omega)) (by omega) (by omega) (by unfold rg; omega) ?_
  obtain ⟨U3, eU3⟩ : ∃ T : sS, T = uI U2 (148 + (row).toNat) ((p).toNat) (Int32.ofInt length) := ⟨_, rfl⟩
  rw [← eU3]
  have hHU3 : HI U3 := by rw [eU3]; exact HI_any hHU2 (lh_row148 (by omega))
  have hFU3 : FR md_wo_setProperty__w S U3 := by rw [eU3]; exact FR.wI hFU2 (mdf_i (r := (148, 188, 0, 100000)) (List.mem_of_getElem? (i := 2) rfl) (inR_i (by omega) (by omega) (by omega) (by omega)))
  have w3 : Xi U3 (148 + (row).toNat) ((p).toNat) = length := by rw [eU3]; exact Xi_same (by unfold rg; omega)
  refine l_return rfl rfl ?_
  exact ⟨hHU3, hFU3, rfl, (fun h1 h3 => TX_set h1 eU1 eU2 eU3 (by omega) (by omega) (by omega) (by unfold rg; omega) (by unfold rg; omega) h3), (by rw [eU3, eU2, eU1]; rfl)⟩
def md_wo_setAdjective__w : List rec := [(25, 65, 0, 100000)]
abbrev Q_wo_setAdjective__w (S : sS) (row : Int) (a : Int) (holds : Int) : pst := fun r S1 => HI S1 ∧ FR md_wo_setAdjective__w S S1 ∧ (r = none ∧ (S1 = saF S row a holds))
set_option maxRecDepth 100000 in
theorem t_wo_setAdjective__w {S : sS} (hH : HI S) (row : Int) (a : Int) (holds : Int) (hrow : 0 ≤ row ∧ row ≤ 39) (ha : 0 ≤ a ∧ a ≤ 23) (hholds : 0 ≤ holds ∧ holds ≤ 1) (d : Nat) : Mt lay0 (d + 1) m_wo_setAdjective [.ref 20, iv row, iv a, iv holds] S (Q_wo_setAdjective__w S row a holds) := by
  refine Mt_R rfl rfl ?_
  have hF : FR md_wo_setAdjective__w S S := FR.rf
  refine l_aload_n rfl rfl ?_
  refine l_gfr rfl rfl rfl rfl rfl (hH.r 20 0 1 rfl) ?_
  refine l_gfr rfl rfl rfl rfl rfl (hH.r 1 10 11 rfl) ?_
  refine l_iload_n rfl rfl ?_
  refine l_iaload (n := 24) rfl rfl (by omega) (by omega) (by unfold rg; omega) ?_
  have w1 : -1 ≤ (Xi S 11 ((a).toNat)) ∧ (Xi S 11 ((a).toNat)) ≤ 23 := hH.c _ _
  refine l_istore rfl rfl rfl ?_
  refine l_aload_n rfl rfl ?_
  refine l_gfr rfl rfl rfl rfl rfl (hH.r 20 5 24 rfl) ?_
  refine l_iload_n rfl rfl ?_
  refine l_aaload (n := 40) (a := 25 + (row).toNat) rfl rfl (by decide) (by omega) (by omega) (by unfold rg; omega) (RW_24 hH (by omega)) ?_
  refine l_iload_n rfl rfl ?_
  refine l_iload_n rfl rfl ?_
  refine l_if_eq rfl rfl (by unfold rg; omega) (fun w2 => ?_) (fun w3 => ?_)
  · refine l_iconst rfl ?_
    refine l_iastore (n := 24) rfl (lay_25 (by omega)) (by omega) (by omega) (by unfold rg; omega) ?_
    obtain ⟨U1, eU1⟩ : ∃ T : sS, T = uI S (25 + (row).toNat) ((a).toNat) (Int32.ofInt (-1)) := ⟨_, rfl⟩
    rw [← eU1]
    have hHU1 : HI U1 := by rw [eU1]; exact HI_any hH (lh_row25 (by omega))
    have hFU1 : FR md_wo_setAdjective__w S U1 := by rw [eU1]; exact FR.wI hF (mdf_i (r := (25, 65, 0, 100000)) (List.mem_of_getElem? (i := 0) rfl) (inR_i (by omega) (by omega) (by omega) (by omega)))
    have w4 : Xi U1 (25 + (row).toNat) ((a).toNat) = (-1) := by rw [eU1]; exact Xi_same (by unfold rg; omega)
    refine l_iload rfl rfl ?_
    refine l_iconst rfl ?_
    refine l_icmp_eq rfl rfl (by unfold rg; omega) (by unfold rg; omega) (fun w5 => ?_) (fun w6 => ?_)
    · refine l_return rfl rfl ?_
      exact ⟨hHU1, hFU1, rfl, (by first | exact sa_j  eU1 (by omega) (by omega) | exact sa_i eU1 (by omega) (by omega))⟩
    · refine l_aload_n rfl rfl ?_
      refine l_gfr rfl rfl rfl rfl rfl (hHU1.r 20 5 24 rfl) ?_
      refine l_iload_n rfl rfl ?_
      refine l_aaload (n := 40) (a := 25 + (row).toNat) rfl rfl (by decide) (by omega) (by omega) (by unfold rg; omega) (RW_24 hHU1 (by omega)) ?_
      refine l_iload rfl rfl ?_
      refine l_iload_n rfl rfl ?_
      refine l_if_eq rfl rfl (by unfold rg; omega) (fun w7 => ?_) (fun w8 => ?_)
      · refine l_iconst rfl ?_
        refine l_iastore (n := 24) rfl (lay_25 (by omega)) (by omega) (by omega) (by unfold rg; omega) ?_
        obtain ⟨U2, eU2⟩ : ∃ T : sS, T = uI U1 (25 + (row).toNat) (((Xi S 11 ((a).toNat))).toNat) (Int32.ofInt 1) := ⟨_, rfl⟩
        rw [← eU2]
        have hHU2 : HI U2 := by rw [eU2]; exact HI_any hHU1 (lh_row25 (by omega))
        have hFU2 : FR md_wo_setAdjective__w S U2 := by rw [eU2]; exact FR.wI hFU1 (mdf_i (r := (25, 65, 0, 100000)) (List.mem_of_getElem? (i := 0) rfl) (inR_i (by omega) (by omega) (by omega) (by omega)))
        have w9 : Xi U2 (25 + (row).toNat) (((Xi S 11 ((a).toNat))).toNat) = 1 := by rw [eU2]; exact Xi_same (by unfold rg; omega)
        refine l_return rfl rfl ?_
        exact ⟨hHU2, hFU2, rfl, (by first | exact sa_j eU1 eU2 (by omega) (by omega) | exact sa_i eU2 (by omega) (by omega))⟩
      · refine l_iconst rfl ?_
        refine l_goto rfl rfl ?_
        refine l_iastore (n := 24) rfl (lay_25 (by omega)) (by omega) (by omega) (by unfold rg; omega) ?_
        obtain ⟨U3, eU3⟩ : ∃ T : sS, T = uI U1 (25 + (row).toNat) (((Xi S 11 ((a).toNat))).toNat) (Int32.ofInt (-1)) := ⟨_, rfl⟩
        rw [← eU3]
        have hHU3 : HI U3 := by rw [eU3]; exact HI_any hHU1 (lh_row25 (by omega))
        have hFU3 : FR md_wo_setAdjective__w S U3 := by rw [eU3]; exact FR.wI hFU1 (mdf_i (r := (25, 65, 0, 100000)) (List.mem_of_getElem? (i := 0) rfl) (inR_i (by omega) (by omega) (by omega) (by omega)))
        have w10 : Xi U3 (25 + (row).toNat) (((Xi S 11 ((a).toNat))).toNat) = (-1) := by rw [eU3]; exact Xi_same (by unfold rg; omega)
        refine l_return rfl rfl ?_
        exact ⟨hHU3, hFU3, rfl, (by first | exact sa_j eU1 eU3 (by omega) (by omega) | exact sa_i eU3 (by omega) (by omega))⟩
  · refine l_iconst rfl ?_
    refine l_goto rfl rfl ?_
    refine l_iastore (n := 24) rfl (lay_25 (by omega)) (by omega) (by omega) (by unfold rg; omega) ?_
    obtain ⟨U4, eU4⟩ : ∃ T : sS, T = uI S (25 + (row).toNat) ((a).toNat) (Int32.ofInt 1) := ⟨_, rfl⟩
    rw [← eU4]
    have hHU4 : HI U4 := by rw [eU4]; exact HI_any hH (lh_row25 (by omega))
    have hFU4 : FR md_wo_setAdjective__w S U4 := by rw [eU4]; exact FR.wI hF (mdf_i (r := (25, 65, 0, 100000)) (List.mem_of_getElem? (i := 0) rfl) (inR_i (by omega) (by omega) (by omega) (by omega)))
    have w11 : Xi U4 (25 + (row).toNat) ((a).toNat) = 1 := by rw [eU4]; exact Xi_same (by unfold rg; omega)
    refine l_iload rfl rfl ?_
    refine l_iconst rfl ?_
    refine l_icmp_eq rfl rfl (by unfold rg; omega) (by unfold rg; omega) (fun w12 => ?_) (fun w13 => ?_)
    · refine l_return rfl rfl ?_
      exact ⟨hHU4, hFU4, rfl, (by first | exact sa_j  eU4 (by omega) (by omega) | exact sa_i eU4 (by omega) (by omega))⟩
    · refine l_aload_n rfl rfl ?_
      refine l_gfr rfl rfl rfl rfl rfl (hHU4.r 20 5 24 rfl) ?_
      refine l_iload_n rfl rfl ?_
      refine l_aaload (n := 40) (a := 25 + (row).toNat) rfl rfl (by decide) (by omega) (by omega) (by unfold rg; omega) (RW_24 hHU4 (by omega)) ?_
      refine l_iload rfl rfl ?_
      refine l_iload_n rfl rfl ?_
      refine l_if_eq rfl rfl (by unfold rg; omega) (fun w14 => ?_) (fun w15 => ?_)
      · refine l_iconst rfl ?_
        refine l_iastore (n := 24) rfl (lay_25 (by omega)) (by omega) (by omega) (by unfold rg; omega) ?_
        obtain ⟨U5, eU5⟩ : ∃ T : sS, T = uI U4 (25 + (row).toNat) (((Xi S 11 ((a).toNat))).toNat) (Int32.ofInt 1) := ⟨_, rfl⟩
        rw [← eU5]
        have hHU5 : HI U5 := by rw [eU5]; exact HI_any hHU4 (lh_row25 (by omega))
        have hFU5 : FR md_wo_setAdjective__w S U5 := by rw [eU5]; exact FR.wI hFU4 (mdf_i (r := (25, 65, 0, 100000)) (List.mem_of_getElem? (i := 0) rfl) (inR_i (by omega) (by omega) (by omega) (by omega)))
        have w16 : Xi U5 (25 + (row).toNat) (((Xi S 11 ((a).toNat))).toNat) = 1 := by rw [eU5]; exact Xi_same (by unfold rg; omega)
        refine l_return rfl rfl ?_
        exact ⟨hHU5, hFU5, rfl, (by first | exact sa_j eU4 eU5 (by omega) (by omega) | exact sa_i eU5 (by omega) (by omega))⟩
      · refine l_iconst rfl ?_
        refine l_goto rfl rfl ?_
        refine l_iastore (n := 24) rfl (lay_25 (by omega)) (by omega) (by omega) (by unfold rg; omega) ?_
        obtain ⟨U6, eU6⟩ : ∃ T : sS, T = uI U4 (25 + (row).toNat) (((Xi S 11 ((a).toNat))).toNat) (Int32.ofInt (-1)) := ⟨_, rfl⟩
        rw [← eU6]
        have hHU6 : HI U6 := by rw [eU6]; exact HI_any hHU4 (lh_row25 (by omega))
        have hFU6 : FR md_wo_setAdjective__w S U6 := by rw [eU6]; exact FR.wI hFU4 (mdf_i (r := (25, 65, 0, 100000)) (List.mem_of_getElem? (i := 0) rfl) (inR_i (by omega) (by omega) (by omega) (by omega)))
        have w17 : Xi U6 (25 + (row).toNat) (((Xi S 11 ((a).toNat))).toNat) = (-1) := by rw [eU6]; exact Xi_same (by unfold rg; omega)
        refine l_return rfl rfl ?_
        exact ⟨hHU6, hFU6, rfl, (by first | exact sa_j eU4 eU6 (by omega) (by omega) | exact sa_i eU6 (by omega) (by omega))⟩
def md_wo_relateNow__w : List rec := [(189, 195, 0, 100000)]
abbrev Q_wo_relateNow__w (S : sS) (rl : Int) (a : Int) (b : Int) : pst := fun r S1 => HI S1 ∧ FR md_wo_relateNow__w S S1 ∧ (r = none ∧ (S1 = rnF S rl a b))
set_option maxRecDepth 100000 in
theorem t_wo_relateNow__w {S : sS} (hH : HI S) (rl : Int) (a : Int) (b : Int) (hrl : 0 ≤ rl ∧ rl ≤ 5) (ha : 0 ≤ a ∧ a ≤ 23) (hb : 0 ≤ b ∧ b ≤ 23) (d : Nat) : Mt lay0 (d + 1) m_wo_relateNow [.ref 20, iv rl, iv a, iv b] S (Q_wo_relateNow__w S rl a b) := by
  refine Mt_R rfl rfl ?_
  have hF : FR md_wo_relateNow__w S S := FR.rf
  have C21 : ∀  (T1 : sS) (_ : HI T1) (_ : FR md_wo_relateNow__w S T1), (T1 = rn1 S rl a) → Rl lay0 (d + 0) m_wo_relateNow 21 [(0, .ref 20), (1, iv rl), (2, iv a), (3, iv b)] [] T1 (Q_wo_relateNow__w S rl a b) := by
    intro T1 hHT1 hFT1 r21
    have C24 : ∀ (n24 : Nat) (T2 : sS) (_ : HI T2) (_ : FR md_wo_relateNow__w S T2) (v4 : Int), (0 ≤ v4 ∧ v4 ≤ 24) → (T2 = rn2 (rn1 S rl a) rl b v4.toNat) → (Xi (rn1 S rl a) 16 rl.toNat = Xi S 16 rl.toNat) → n24 = (25 - v4).toNat → Rl lay0 (d + 0) m_wo_relateNow 24 [(0, .ref 20), (1, iv rl), (2, iv a), (3, iv b), (4, iv v4)] [] T2 (Q_wo_relateNow__w S rl a b) := by
      intro n24
      induction n24 using Nat.strongRecOn with
      | ind n24 ih24 =>
        intro T2 hHT2 hFT2 v4 w1 r24 g24 hm24
        have C66 : ∀  (T3 : sS) (_ : HI T3) (_ : FR md_wo_relateNow__w S T3), (T3 = rn2 (rn1 S rl a) rl b 24) → Rl lay0 (d + 0) m_wo_relateNow 66 [(0, .ref 20), (1, iv rl), (2, iv a), (3, iv b)] [] T3 (Q_wo_relateNow__w S rl a b) := by
          intro T3 hHT3 hFT3 r66
          refine l_aload_n rfl rfl ?_
          refine l_gfr rfl rfl rfl rfl rfl (hHT3.r 20 9 188 rfl) ?_
          refine l_iload_n rfl rfl ?_
          refine l_aaload (n := 6) (a := 189 + (rl).toNat) rfl rfl (by decide) (by omega) (by omega) (by unfold rg; omega) (RW_188 hHT3 (by omega)) ?_
          refine l_iload_n rfl rfl ?_
          refine l_dup2 rfl rfl ?_
          refine l_iaload (n := 24) rfl (lay_189 (by omega)) (by omega) (by omega) (by unfold rg; omega) ?_
          have w2 : -2147483648 ≤ (Xi T3 (189 + (rl).toNat) ((a).toNat)) ∧ (Xi T3 (189 + (rl).toNat) ((a).toNat)) ≤ 2147483647 := Xi_rgI
          refine l_iconst rfl ?_
          refine l_iload_n rfl rfl ?_
          refine l_ishlF rfl ?_
          have w3 : -2147483648 ≤ (ishlF 1 b) ∧ (ishlF 1 b) ≤ 2147483647 := ishlF_rg
          refine l_iorF rfl ?_
          have w4 : -2147483648 ≤ (iorF (Xi T3 (189 + (rl).toNat) ((a).toNat)) (ishlF 1 b)) ∧ (iorF (Xi T3 (189 + (rl).toNat) ((a).toNat)) (ishlF 1 b)) ≤ 2147483647 := iorF_rg
          have w4b : (0 : Int) ≤ (Xi T3 (189 + (rl).toNat) ((a).toNat)) → (0 : Int) ≤ (ishlF 1 b) → 0 ≤ (iorF (Xi T3 (189 + (rl).toNat) ((a).toNat)) (ishlF 1 b)) := iorF_nn (by unfold rg; omega) (by unfold rg; omega)
          refine l_iastore (n := 24) rfl (lay_189 (by omega)) (by omega) (by omega) (by unfold rg; omega) ?_
          obtain ⟨U4, eU4⟩ : ∃ T : sS, T = uI T3 (189 + (rl).toNat) ((a).toNat) (Int32.ofInt (iorF (Xi T3 (189 + (rl).toNat) ((a).toNat)) (ishlF 1 b))) := ⟨_, rfl⟩
          rw [← eU4]
          have hHU4 : HI U4 := by rw [eU4]; exact HI_any hHT3 (lh_row189 (by omega))
          have hFU4 : FR md_wo_relateNow__w S U4 := by rw [eU4]; exact FR.wI hFT3 (mdf_i (r := (189, 195, 0, 100000)) (List.mem_of_getElem? (i := 0) rfl) (inR_i (by omega) (by omega) (by omega) (by omega)))
          have w5 : Xi U4 (189 + (rl).toNat) ((a).toNat) = (iorF (Xi T3 (189 + (rl).toNat) ((a).toNat)) (ishlF 1 b)) := by rw [eU4]; exact Xi_same (by unfold rg; omega)
          refine l_return rfl rfl ?_
          exact ⟨hHU4, hFU4, rfl, (by rw [eU4, r66]; rfl)⟩
        refine l_iload rfl rfl ?_
        refine l_bipush rfl rfl ?_
        refine l_icmp_ge rfl rfl (by unfold rg; omega) (by unfold rg; omega) (fun w6 => ?_) (fun w7 => ?_)
        · exact Rl_weak (C66 T2 hHT2 hFT2  (by exact rn_e r24 (by omega))) (And.intro rfl (And.intro rfl (And.intro rfl (And.intro rfl (True.intro)))))
        · refine l_aload_n rfl rfl ?_
          refine l_gfr rfl rfl rfl rfl rfl (hHT2.r 20 0 1 rfl) ?_
          refine l_gfr rfl rfl rfl rfl rfl (hHT2.r 1 15 16 rfl) ?_
          refine l_iload_n rfl rfl ?_
          refine l_baload (n := 6) rfl rfl rfl (by decide) (by omega) (by omega) (by unfold rg; omega) ?_
          have w8 : 0 ≤ (Xi T2 16 ((rl).toNat)) ∧ (Xi T2 16 ((rl).toNat)) ≤ 1 := hHT2.c _ _
          have o39 : (Xi T2 16 ((rl).toNat)) = Xi S 16 rl.toNat := (hFT2.cx 16 rfl _).1
          refine l_if_eq rfl rfl (by unfold rg; omega) (fun w9 => ?_) (fun w10 => ?_)
          · exact Rl_weak (C66 T2 hHT2 hFT2  (by exact rn_e r24 (by omega))) (And.intro rfl (And.intro rfl (And.intro rfl (And.intro rfl (True.intro)))))
          · refine l_aload_n rfl rfl ?_
            refine l_gfr rfl rfl rfl rfl rfl (hHT2.r 20 9 188 rfl) ?_
            refine l_iload_n rfl rfl ?_
            refine l_aaload (n := 6) (a := 189 + (rl).toNat) rfl rfl (by decide) (by omega) (by omega) (by unfold rg; omega) (RW_188 hHT2 (by omega)) ?_
            refine l_iload rfl rfl ?_
            refine l_dup2 rfl rfl ?_
            refine l_iaload (n := 24) rfl (lay_189 (by omega)) (by omega) (by omega) (by unfold rg; omega) ?_
            have w11 : -2147483648 ≤ (Xi T2 (189 + (rl).toNat) ((v4).toNat)) ∧ (Xi T2 (189 + (rl).toNat) ((v4).toNat)) ≤ 2147483647 := Xi_rgI
            refine l_iconst rfl ?_
            refine l_iload_n rfl rfl ?_
            refine l_ishlF rfl ?_
            have w12 : -2147483648 ≤ (ishlF 1 b) ∧ (ishlF 1 b) ≤ 2147483647 := ishlF_rg
            refine l_iconst rfl ?_
            refine l_ixorF rfl ?_
            have w13 : -2147483648 ≤ (ixorF (ishlF 1 b) (-1)) ∧ (ixorF (ishlF 1 b) (-1)) ≤ 2147483647 := ixorF_rg
            refine l_iandF rfl ?_
            have w14 : -2147483648 ≤ (iandF (Xi T2 (189 + (rl).toNat) ((v4).toNat)) (ixorF (ishlF 1 b) (-1))) ∧ (iandF (Xi T2 (189 + (rl).toNat) ((v4).toNat)) (ixorF (ishlF 1 b) (-1))) ≤ 2147483647 := iandF_rg
            refine l_iastore (n := 24) rfl (lay_189 (by omega)) (by omega) (by omega) (by unfold rg; omega) ?_
            obtain ⟨U5, eU5⟩ : ∃ T : sS, T = uI T2 (189 + (rl).toNat) ((v4).toNat) (Int32.ofInt (iandF (Xi T2 (189 + (rl).toNat) ((v4).toNat)) (ixorF (ishlF 1 b) (-1)))) := ⟨_, rfl⟩
            rw [← eU5]
            have hHU5 : HI U5 := by rw [eU5]; exact HI_any hHT2 (lh_row189 (by omega))
            have hFU5 : FR md_wo_relateNow__w S U5 := by rw [eU5]; exact FR.wI hFT2 (mdf_i (r := (189, 195, 0, 100000)) (List.mem_of_getElem? (i := 0) rfl) (inR_i (by omega) (by omega) (by omega) (by omega)))
            have w15 : Xi U5 (189 + (rl).toNat) ((v4).toNat) = (iandF (Xi T2 (189 + (rl).toNat) ((v4).toNat)) (ixorF (ishlF 1 b) (-1))) := by rw [eU5]; exact Xi_same (by unfold rg; omega)
            refine l_iinc rfl rfl rfl rfl ?_
            refine l_goto rfl rfl ?_
            exact Rl_weak (ih24 _ (by omega) U5 hHU5 hFU5 ((v4 + 1)) (by omega) (by first | exact rn2_s r24 (by omega) (by omega) eU5 | exact r21) (by first | exact g24 | (rw [← r21]; exact (hFU5.cx 16 rfl _).1)) rfl) (And.intro rfl (And.intro rfl (And.intro rfl (And.intro rfl (And.intro rfl (True.intro))))))
    refine l_iconst rfl ?_
    refine l_istore rfl rfl rfl ?_
    exact Rl_weak (C24 _ T1 hHT1 hFT1 (0) (by omega) (by first | exact rn2_s r24 (by omega) (by omega) rfl | exact r21) (by first | exact g24 | (rw [← r21]; exact (hFT1.cx 16 rfl _).1)) rfl) (And.intro rfl (And.intro rfl (And.intro rfl (And.intro rfl (And.intro rfl (True.intro))))))
  refine l_aload_n rfl rfl ?_
  refine l_gfr rfl rfl rfl rfl rfl (hH.r 20 0 1 rfl) ?_
  refine l_gfr rfl rfl rfl rfl rfl (hH.r 1 16 17 rfl) ?_
  refine l_iload_n rfl rfl ?_
  refine l_baload (n := 6) rfl rfl rfl (by decide) (by omega) (by omega) (by unfold rg; omega) ?_
  have w16 : 0 ≤ (Xi S 17 ((rl).toNat)) ∧ (Xi S 17 ((rl).toNat)) ≤ 1 := hH.c _ _
  refine l_if_eq rfl rfl (by unfold rg; omega) (fun w17 => ?_) (fun w18 => ?_)
  · exact Rl_weak (C21 S hH hF  (by first | (rw [rfl]; unfold rn1; rw [if_neg (by omega)]) | (unfold rn1; rw [if_pos (by omega)]))) (And.intro rfl (And.intro rfl (And.intro rfl (And.intro rfl (True.intro)))))
  · refine l_aload_n rfl rfl ?_
    refine l_gfr rfl rfl rfl rfl rfl (hH.r 20 9 188 rfl) ?_
    refine l_iload_n rfl rfl ?_
    refine l_aaload (n := 6) (a := 189 + (rl).toNat) rfl rfl (by decide) (by omega) (by omega) (by unfold rg; omega) (RW_188 hH (by omega)) ?_
    refine l_iload_n rfl rfl ?_
    refine l_iconst rfl ?_
    refine l_iastore (n := 24) rfl (lay_189 (by omega)) (by omega) (by omega) (by unfold rg; omega) ?_
    obtain ⟨U6, eU6⟩ : ∃ T : sS, T = uI S (189 + (rl).toNat) ((a).toNat) (Int32.ofInt 0) := ⟨_, rfl⟩
    rw [← eU6]
    have hHU6 : HI U6 := by rw [eU6]; exact HI_any hH (lh_row189 (by omega))
    have hFU6 : FR md_wo_relateNow__w S U6 := by rw [eU6]; exact FR.wI hF (mdf_i (r := (189, 195, 0, 100000)) (List.mem_of_getElem? (i := 0) rfl) (inR_i (by omega) (by omega) (by omega) (by omega)))
    have w19 : Xi U6 (189 + (rl).toNat) ((a).toNat) = 0 := by rw [eU6]; exact Xi_same (by unfold rg; omega)
    exact Rl_weak (C21 U6 hHU6 hFU6  (by first | (rw [eU6]; unfold rn1; rw [if_neg (by omega)]) | (unfold rn1; rw [if_pos (by omega)]))) (And.intro rfl (And.intro rfl (And.intro rfl (And.intro rfl (True.intro)))))
def md_tu_move__w : List rec := [(22, 23, 0, 100000), (23, 24, 0, 100000)]
abbrev Q_tu_move__w (S : sS) (who : Int) (to : Int) : pst := fun r S1 => HI S1 ∧ FR md_tu_move__w S S1 ∧ (r = none ∧ (S1 = mvF S who to))
set_option maxRecDepth 100000 in
theorem t_tu_move__w {S : sS} (hH : HI S) (who : Int) (to : Int) (hwho : 0 ≤ who ∧ who ≤ 23) (hto : 0 ≤ to ∧ to ≤ 23) (d : Nat) : Mt lay0 (d + 3) m_tu_move [.ref 900, iv who, iv to] S (Q_tu_move__w S who to) := by
  refine Mt_R rfl rfl ?_
  have hF : FR md_tu_move__w S S := FR.rf
  have C24 : (isK S (Xi S 21 who.toNat) 0 = 0 ∨ isW S to who ≠ 0) → Rl lay0 (d + 2) m_tu_move 24 [] [] S (Q_tu_move__w S who to) := by
    intro w1
    refine l_return rfl rfl ?_
    exact ⟨hH, hF, rfl, (by first | exact mv_1 (by omega) (by omega) m87 e94 | exact mv_0 (by omega))⟩
  have C87 : ∀  (v3 : Int), (1 ≤ v3 ∧ v3 ≤ 4) → (isK S (Xi S 21 who.toNat) 0 ≠ 0) → (isW S to who = 0) → (v3 = mhF S to) → Rl lay0 (d + 2) m_tu_move 87 [(0, .ref 900), (1, iv who), (2, iv to), (3, iv v3)] [] S (Q_tu_move__w S who to) := by
    intro v3 w2 w3 w4 m87
    refine l_aload_n rfl rfl ?_
    refine l_gfr rfl rfl rfl rfl rfl (hH.r 900 1 20 rfl) ?_
    refine l_iload_n rfl rfl ?_
    refine l_iload_n rfl rfl ?_
    refine l_iload_n rfl rfl ?_
    refine l_callV rfl rfl rfl (t_wo_place__q hH who v3 to ⟨by omega, by omega⟩ ⟨by omega, by omega⟩ ⟨by omega, by omega⟩ _) ?_
    rintro _ T1 ⟨hHT1, w6, rfl, e94⟩
    have hFT1 : FR md_tu_move__w S T1 := FR.tr hF w6 rfl
    show Rl _ _ _ _ _ [] _ _
    refine l_return rfl rfl ?_
    exact ⟨hHT1, hFT1, rfl, (by first | exact mv_1 (by omega) (by omega) m87 e94 | exact mv_0 (by omega))⟩
  have C51 : (isK S (Xi S 21 who.toNat) 0 ≠ 0) → (isW S to who = 0) → (isK S (Xi S 21 to.toNat) 1 ≠ 0 ∨ isK S (Xi S 21 to.toNat) 2 ≠ 0) → Rl lay0 (d + 2) m_tu_move 51 [(0, .ref 900), (1, iv who), (2, iv to)] [] S (Q_tu_move__w S who to) := by
    intro w7 w8 w9
    refine l_iconst rfl ?_
    refine l_istore_n rfl rfl rfl ?_
    refine l_goto rfl rfl ?_
    exact Rl_weak (C87 (1) (by omega) (by omega) (by omega) (by first | exact mh_1 (by omega) | exact mh_2 (by omega) (by omega) (by omega) | exact mh_4 (by omega) (by omega) (by omega) (by omega) | exact mh_3 (by omega) (by omega) (by omega) (by omega))) (And.intro rfl (And.intro rfl (And.intro rfl (And.intro rfl (True.intro)))))
  refine l_aload_n rfl rfl ?_
  refine l_gfr rfl rfl rfl rfl rfl (hH.r 900 1 20 rfl) ?_
  refine l_iload_n rfl rfl ?_
  refine l_iconst rfl ?_
  refine l_callV rfl rfl rfl (t_wo_isA hH who 0 ⟨by omega, by omega⟩ ⟨by omega, by omega⟩ _) ?_
  rintro _ _ ⟨rfl, z11, rfl, w11, w10⟩
  show Rl _ _ _ _ _ [iv z11] _ _
  refine l_if_eq rfl rfl (by unfold rg; omega) (fun w12 => ?_) (fun w13 => ?_)
  · exact Rl_weak (C24  (by omega)) (True.intro)
  · refine l_aload_n rfl rfl ?_
    refine l_gfr rfl rfl rfl rfl rfl (hH.r 900 1 20 rfl) ?_
    refine l_iload_n rfl rfl ?_
    refine l_iload_n rfl rfl ?_
    refine l_callV rfl rfl rfl (t_wo_isWithin hH to who ⟨by omega, by omega⟩ ⟨by omega, by omega⟩ _) ?_
    rintro _ _ ⟨rfl, z15, rfl, w15, w14⟩
    show Rl _ _ _ _ _ [iv z15] _ _
    refine l_if_eq rfl rfl (by unfold rg; omega) (fun w16 => ?_) (fun w17 => ?_)
    · refine l_iconst rfl ?_
      refine l_istore_n rfl rfl rfl ?_
      refine l_aload_n rfl rfl ?_
      refine l_gfr rfl rfl rfl rfl rfl (hH.r 900 1 20 rfl) ?_
      refine l_iload_n rfl rfl ?_
      refine l_iconst rfl ?_
      refine l_callV rfl rfl rfl (t_wo_isA hH to 1 ⟨by omega, by omega⟩ ⟨by omega, by omega⟩ _) ?_
      rintro _ _ ⟨rfl, z19, rfl, w19, w18⟩
      show Rl _ _ _ _ _ [iv z19] _ _
      refine l_if_ne rfl rfl (by unfold rg; omega) (fun w20 => ?_) (fun w21 => ?_)
      · exact Rl_weak (C51  (by omega) (by omega) (by omega)) (And.intro rfl (And.intro rfl (And.intro rfl (True.intro))))
      · refine l_aload_n rfl rfl ?_
        refine l_gfr rfl rfl rfl rfl rfl (hH.r 900 1 20 rfl) ?_
        refine l_iload_n rfl rfl ?_
        refine l_iconst rfl ?_
        refine l_callV rfl rfl rfl (t_wo_isA hH to 2 ⟨by omega, by omega⟩ ⟨by omega, by omega⟩ _) ?_
        rintro _ _ ⟨rfl, z23, rfl, w23, w22⟩
        show Rl _ _ _ _ _ [iv z23] _ _
        refine l_if_eq rfl rfl (by unfold rg; omega) (fun w24 => ?_) (fun w25 => ?_)
        · refine l_aload_n rfl rfl ?_
          refine l_gfr rfl rfl rfl rfl rfl (hH.r 900 1 20 rfl) ?_
          refine l_iload_n rfl rfl ?_
          refine l_iconst rfl ?_
          refine l_callV rfl rfl rfl (t_wo_isA hH to 3 ⟨by omega, by omega⟩ ⟨by omega, by omega⟩ _) ?_
          rintro _ _ ⟨rfl, z27, rfl, w27, w26⟩
          show Rl _ _ _ _ _ [iv z27] _ _
          refine l_if_eq rfl rfl (by unfold rg; omega) (fun w28 => ?_) (fun w29 => ?_)
          · refine l_aload_n rfl rfl ?_
            refine l_gfr rfl rfl rfl rfl rfl (hH.r 900 1 20 rfl) ?_
            refine l_iload_n rfl rfl ?_
            refine l_iconst rfl ?_
            refine l_callV rfl rfl rfl (t_wo_isA hH to 4 ⟨by omega, by omega⟩ ⟨by omega, by omega⟩ _) ?_
            rintro _ _ ⟨rfl, z31, rfl, w31, w30⟩
            show Rl _ _ _ _ _ [iv z31] _ _
            refine l_if_eq rfl rfl (by unfold rg; omega) (fun w32 => ?_) (fun w33 => ?_)
            · exact Rl_weak (C87 (3) (by omega) (by omega) (by omega) (by first | exact mh_1 (by omega) | exact mh_2 (by omega) (by omega) (by omega) | exact mh_4 (by omega) (by omega) (by omega) (by omega) | exact mh_3 (by omega) (by omega) (by omega) (by omega))) (And.intro rfl (And.intro rfl (And.intro rfl (And.intro rfl (True.intro)))))
            · refine l_iconst rfl ?_
              refine l_istore_n rfl rfl rfl ?_
              exact Rl_weak (C87 (4) (by omega) (by omega) (by omega) (by first | exact mh_1 (by omega) | exact mh_2 (by omega) (by omega) (by omega) | exact mh_4 (by omega) (by omega) (by omega) (by omega) | exact mh_3 (by omega) (by omega) (by omega) (by omega))) (And.intro rfl (And.intro rfl (And.intro rfl (And.intro rfl (True.intro)))))
          · refine l_iconst rfl ?_
            refine l_istore_n rfl rfl rfl ?_
            refine l_goto rfl rfl ?_
            exact Rl_weak (C87 (2) (by omega) (by omega) (by omega) (by first | exact mh_1 (by omega) | exact mh_2 (by omega) (by omega) (by omega) | exact mh_4 (by omega) (by omega) (by omega) (by omega) | exact mh_3 (by omega) (by omega) (by omega) (by omega))) (And.intro rfl (And.intro rfl (And.intro rfl (And.intro rfl (True.intro)))))
        · exact Rl_weak (C51  (by omega) (by omega) (by omega)) (And.intro rfl (And.intro rfl (And.intro rfl (True.intro))))
    · exact Rl_weak (C24  (by omega)) (True.intro)
def md_mo_put__q : List rec := [(904, 905, 156, 157), (993, 994, 0, 100000)]
abbrev Q_mo_put__q (S : sS) (c : Int) : pst := fun r S1 => HI S1 ∧ FR md_mo_put__q S S1 ∧ (r = none ∧ (Xi S 904 157 = 0 → OUP 993 904 156 S S1 [c]) ∧ (Xi S 904 157 ≠ 0 → S1 = S))
set_option maxRecDepth 100000 in
theorem t_mo_put__q {S : sS} (hH : HI S) (c : Int) (hc : -2147483648 ≤ c ∧ c ≤ 2147483647) (d : Nat) : Mt lay0 (d + 1) m_mo_put [.ref 904, iv c] S (Q_mo_put__q S c) := by
  refine Mt_R rfl rfl ?_
  have hF : FR md_mo_put__q S S := FR.rf
  have w1 : 0 ≤ Xi S 904 157 ∧ Xi S 904 157 ≤ 1 := hH.c _ _
  refine l_aload_n rfl rfl ?_
  refine l_gfi rfl rfl rfl rfl rfl ?_
  have w2 : 0 ≤ (Xi S 904 156) ∧ (Xi S 904 156) ≤ 2000 := hH.c _ _
  refine l_sipush rfl rfl ?_
  refine l_icmp_ge rfl rfl (by unfold rg; omega) (by unfold rg; omega) (fun w3 => ?_) (fun w4 => ?_)
  · refine l_return rfl rfl ?_
    exact ⟨hH, hF, rfl, (by first | (intro q; exact oup_f (by omega) (by omega)) | (intro q; exfalso; omega) | (intro q; exact oup_1 (by omega) (by omega) eU1 (by unfold rg; omega) (by have t := bmod_c (x := c); omega) eU2)), (by first | (intro _; rfl) | (intro q; exfalso; omega))⟩
  · refine l_aload_n rfl rfl ?_
    refine l_gfi rfl rfl rfl rfl rfl ?_
    refine l_if_ne rfl rfl (by unfold rg; omega) (fun w5 => ?_) (fun w6 => ?_)
    · refine l_return rfl rfl ?_
      exact ⟨hH, hF, rfl, (by first | (intro q; exact oup_f (by omega) (by omega)) | (intro q; exfalso; omega) | (intro q; exact oup_1 (by omega) (by omega) eU1 (by unfold rg; omega) (by have t := bmod_c (x := c); omega) eU2)), (by first | (intro _; rfl) | (intro q; exfalso; omega))⟩
    · refine l_aload_n rfl rfl ?_
      refine l_gfr rfl rfl rfl rfl rfl (hH.r 904 155 993 rfl) ?_
      refine l_aload_n rfl rfl ?_
      refine l_gfi rfl rfl rfl rfl rfl ?_
      refine l_iload_n rfl rfl ?_
      refine l_i2b rfl (fun c7 w7 => ?_)
      refine l_bastoreB1 (n := 2000) rfl rfl (by omega) (by omega) (by unfold rg; omega) ⟨by omega, by omega⟩ ?_
      obtain ⟨U1, eU1⟩ : ∃ T : sS, T = uI S 993 (((Xi S 904 156)).toNat) (Int32.ofInt c7) := ⟨_, rfl⟩
      rw [← eU1]
      have hHU1 : HI U1 := by rw [eU1]; exact HI_w hH (show -128 ≤ c7 by omega) (show c7 ≤ 127 by omega)
      have hFU1 : FR md_mo_put__q S U1 := by rw [eU1]; exact FR.wI hF (mdf_i (r := (993, 994, 0, 100000)) (List.mem_of_getElem? (i := 1) rfl) (inR_i (by omega) (by omega) (by omega) (by omega)))
      have w8 : Xi U1 993 (((Xi S 904 156)).toNat) = c7 := by rw [eU1]; exact Xi_same (by unfold rg; omega)
      refine l_aload_n rfl rfl ?_
      refine l_dup rfl rfl ?_
      refine l_gfi rfl rfl rfl rfl rfl ?_
      have w9 : (Xi U1 904 156) = (Xi S 904 156) := (show Xi U1 904 156 = Xi S 904 156 from by rw [eU1]; exact Xi_ne (by omega))
      rw [w9]
      refine l_iconst rfl ?_
      refine l_iadd rfl ?_
      refine l_pfi rfl rfl rfl rfl ?_
      obtain ⟨U2, eU2⟩ : ∃ T : sS, T = uI U1 904 156 (Int32.ofInt ((Xi S 904 156) + 1)) := ⟨_, rfl⟩
      rw [← eU2]
      have hHU2 : HI U2 := by rw [eU2]; exact HI_w hHU1 (show 0 ≤ ((Xi S 904 156) + 1) by omega) (show ((Xi S 904 156) + 1) ≤ 2000 by omega)
      have hFU2 : FR md_mo_put__q S U2 := by rw [eU2]; exact FR.wI hFU1 (mdf_i (r := (904, 905, 156, 157)) (List.mem_of_getElem? (i := 0) rfl) (inR_i (by omega) (by omega) (by omega) (by omega)))
      have w10 : Xi U2 904 156 = ((Xi S 904 156) + 1) := by rw [eU2]; exact Xi_same (by unfold rg; omega)
      refine l_return rfl rfl ?_
      exact ⟨hHU2, hFU2, rfl, (by first | (intro q; exact oup_f (by omega) (by omega)) | (intro q; exfalso; omega) | (intro q; exact oup_1 (by omega) (by omega) eU1 (by unfold rg; omega) (by have t := bmod_c (x := c); omega) eU2)), (by first | (intro _; rfl) | (intro q; exfalso; omega))⟩
end
section
/-! NAMES, inserts, what is said: the class -/
def lnF : Nat → Int → Int
  | 0, _ => 0
  | f + 1, w => if w < 27 then 1 else 1 + lnF f (w / 27)
def ln7 (w : Int) : Int := lnF 14 w
theorem lnF_i : ∀ (n f : Nat) (w : Int), n < f → (27 : Int) ^ n ≤ w → w < 27 ^ (n + 1) → lnF f w = n + 1
  | _, 0, _, h, _, _ => absurd h (by omega)
  | 0, f + 1, w, _, _, h => by
    unfold lnF
    rw [if_pos (by rw [Int.pow_succ, Int.pow_zero] at h; omega)]; rfl
  | n + 1, f + 1, w, hf, h1, h2 => by
    rw [Int.pow_succ] at h1 h2
    have p : (0 : Int) < 27 ^ n := Int.pow_pos (by decide)
    unfold lnF
    rw [if_neg (by omega), lnF_i n f (w / 27) (by omega) (by omega) (by omega)]
    omega
theorem ln7_i {w n : Int} (hn : 1 ≤ n ∧ n ≤ 14) (h1 : p27 n ≤ w) (h2 : w / 27 < p27 n) : ln7 w = n := by
  unfold p27 at h1 h2
  have t := lnF_i (n - 1).toNat 14 w (by omega) h1 (by rw [Int.pow_succ]; omega)
  unfold ln7
  rw [t]; omega
def ch7 (w l : Int) : Int := 96 + w / p27 (ln7 w - l) % 27
/-- byte of a name, from the i-th word on; nbT: within a word -/
def nbS (S : sS) (so wh : Int) : Nat → Nat → Int → Int
  | 0, _, _ => -1
  | f + 1, i, l => if l < 0 then -1 else if Xj S 2 i = 0 ∨ Xi S 3 (i / 3) ≠ so ∨ Xi S 4 (i / 3) ≠ wh then nbS S so wh f (i + 1) l
    else if i % 3 ≠ 0 ∧ l = 0 then 32
    else if l - (if i % 3 = 0 then 0 else 1) < ln7 (Xj S 2 i) then ch7 (Xj S 2 i) (l - (if i % 3 = 0 then 0 else 1)) else nbS S so wh f (i + 1) (l - (if i % 3 = 0 then 0 else 1) - ln7 (Xj S 2 i))
def nbT (S : sS) (so wh : Int) (f i : Nat) (w l : Int) : Int := if l < ln7 w then ch7 w l else nbS S so wh f i (l - ln7 w)
def nbC (S : sS) (so wh k : Int) : Int := nbS S so wh (3 * Xi S 1 3 - 0).toNat 0 k
theorem nb_e {S : sS} {so wh l v : Int} {i : Nat} (h : 3 * Xi S 1 3 ≤ v ∨ l < 0) : nbS S so wh (3 * Xi S 1 3 - v).toNat i l = -1 := by
  rcases h with h | h
  · rw [show (3 * Xi S 1 3 - v).toNat = 0 by omega]; rfl
  · cases (3 * Xi S 1 3 - v).toNat with
    | zero => rfl
    | succ f => unfold nbS; rw [if_pos h]
theorem nb_k {S : sS} {so wh l v : Int} (hv : 0 ≤ v ∧ v < 3 * Xi S 1 3) (hl : 0 ≤ l) (h : Xj S 2 v.toNat = 0 ∨ Xi S 3 (v / 3).toNat ≠ so ∨ Xi S 4 (v / 3).toNat ≠ wh) : nbS S so wh (3 * Xi S 1 3 - v).toNat v.toNat l = nbS S so wh (3 * Xi S 1 3 - (v + 1)).toNat (v + 1).toNat l := by
  rw [show (3 * Xi S 1 3 - v).toNat = (3 * Xi S 1 3 - (v + 1)).toNat + 1 by omega, show (v + 1).toNat = v.toNat + 1 by omega]
  conv => lhs; unfold nbS
  rw [if_neg (by omega), if_pos (by rw [show v.toNat / 3 = (v / 3).toNat by omega]; exact h)]
theorem nb_32 {S : sS} {so wh l v : Int} (hv : 0 ≤ v ∧ v < 3 * Xi S 1 3) (hl : l = 0) (h1 : Xj S 2 v.toNat ≠ 0) (h2 : Xi S 3 (v / 3).toNat = so) (h3 : Xi S 4 (v / 3).toNat = wh) (h4 : v % 3 ≠ 0) : nbS S so wh (3 * Xi S 1 3 - v).toNat v.toNat l = 32 := by
  rw [show (3 * Xi S 1 3 - v).toNat = (3 * Xi S 1 3 - (v + 1)).toNat + 1 by omega]
  unfold nbS
  rw [if_neg (by omega), if_neg (by rw [show v.toNat / 3 = (v / 3).toNat by omega]; intro q; rcases q with q | q | q; exact h1 q; exact q h2; exact q h3), if_pos ⟨by omega, hl⟩]
theorem nb_t {S : sS} {so wh l v g : Int} (hv : 0 ≤ v ∧ v < 3 * Xi S 1 3) (hl : 0 ≤ l) (h1 : Xj S 2 v.toNat ≠ 0) (h2 : Xi S 3 (v / 3).toNat = so) (h3 : Xi S 4 (v / 3).toNat = wh) (hg : (v % 3 = 0 ∧ g = 1) ∨ (v % 3 ≠ 0 ∧ g = 0 ∧ l ≠ 0)) : nbS S so wh (3 * Xi S 1 3 - v).toNat v.toNat l = nbT S so wh (3 * Xi S 1 3 - (v + 1)).toNat (v + 1).toNat (Xj S 2 v.toNat) (l - (1 - g)) := by
  rw [show (3 * Xi S 1 3 - v).toNat = (3 * Xi S 1 3 - (v + 1)).toNat + 1 by omega, show (v + 1).toNat = v.toNat + 1 by omega]
  conv => lhs; unfold nbS
  unfold nbT
  have e : (if v.toNat % 3 = 0 then (0 : Int) else 1) = 1 - g := by
    rcases hg with ⟨a, b⟩ | ⟨a, b, _⟩
    · rw [if_pos (by omega)]; omega
    · rw [if_neg (by omega)]; omega
  rw [if_neg (by omega), if_neg (by rw [show v.toNat / 3 = (v / 3).toNat by omega]; intro q; rcases q with q | q | q; exact h1 q; exact q h2; exact q h3), if_neg (by omega), e]
theorem nbt_1 {S : sS} {so wh w l : Int} {f i : Nat} (h : l < ln7 w) : nbT S so wh f i w l = ch7 w l := by unfold nbT; rw [if_pos h]
theorem nbt_2 {S : sS} {so wh w l : Int} {f i : Nat} (h : ¬ l < ln7 w) : nbT S so wh f i w l = nbS S so wh f i (l - ln7 w) := by unfold nbT; rw [if_neg h]
theorem p27_d {n v : Int} (h : v = p27 n) (hn : 2 ≤ n) : v / 27 = p27 (n - 1) ∧ 27 ≤ v := by
  unfold p27 at h ⊢
  rw [show (n - 1).toNat = (n - 1 - 1).toNat + 1 by omega, Int.pow_succ] at h
  have p : (0 : Int) < 27 ^ (n - 1 - 1).toNat := Int.pow_pos (by decide)
  exact ⟨by rw [h, Int.mul_ediv_cancel _ (by decide)], by omega⟩
theorem ch_e {w v l c z : Int} (hv : v = p27 (ln7 w - l)) (hc : c = w / v % 27) (hz : z = 96 + c) : z = ch7 w l := by unfold ch7; rw [hz, hc, hv]
/-! only the page changes -/
def XW (S T : sS) : Prop := (∀ c j : Nat, c < 900 → Xi T c j = Xi S c j ∧ Xj T c j = Xj S c j) ∧ txr T = txr S ∧ (tp (txr S) → ∀ j : Nat, Xi T (txr T) j = Xi S (txr S) j)
theorem XW.f {l : List rec} {S T : sS} (F : FR l S T) (e : l = [(900, 901, 4, 5), (901, 902, 0, 100000)]) : XW S T := by
  rw [e] at F
  have k : ∀ c j : Nat, c < 900 → mdf [(900, 901, 4, 5), (901, 902, 0, 100000)] c j = false := fun c j q => by
    cases h : mdf [(900, 901, 4, 5), (901, 902, 0, 100000)] c j with
    | false => rfl
    | true =>
      exfalso
      unfold mdf at h
      simp only [List.any_cons, List.any_nil, Bool.or_false, inR, Bool.and_eq_true, Bool.or_eq_true, Nat.blt, Nat.ble_eq] at h
      omega
  have t : txr T = txr S := by unfold txr; rw [(F 20 1 (k 20 1 (by omega))).2.2]
  exact ⟨fun c j q => ⟨F.x c j (k c j q), F.xj c j (k c j q)⟩, t, fun h j => txb F rfl rfl (by rw [t]; exact h)⟩
theorem XW.rf {S : sS} : XW S S := ⟨fun _ _ _ => ⟨rfl, rfl⟩, rfl, fun _ _ => rfl⟩
theorem nbS_x {S T : sS} {so wh : Int} (h : XW S T) : ∀ (f i : Nat) (l : Int), nbS T so wh f i l = nbS S so wh f i l
  | 0, _, _ => rfl
  | f + 1, i, l => by
    unfold nbS
    rw [(h.1 2 i (by omega)).2, (h.1 3 (i / 3) (by omega)).1, (h.1 4 (i / 3) (by omega)).1, nbS_x h f, nbS_x h f]
theorem nbC_x {S T : sS} {so wh k : Int} (h : XW S T) : nbC T so wh k = nbC S so wh k := by unfold nbC; rw [(h.1 1 3 (by omega)).1, nbS_x h]
theorem trwn_x {S T : sS} {p : Nat} (h : XW S T) : ∀ (f : Nat) (k : Int), k ≤ 15 → (∀ j : Nat, Xi S 6 j ≤ 15) → trwn T p f k = trwn S p f k
  | 0, _, _, _ => rfl
  | f + 1, k, hk, q => by
    unfold trwn
    by_cases z : k < 0
    · rw [if_pos z, if_pos z]
    · rw [(h.1 6 _ (by omega)).1, (h.1 (66 + (24 + k).toNat) _ (by omega)).1, trwn_x h f _ (q _) q]
theorem trw_x {S T : sS} {o : Int} {p : Nat} (h : XW S T) (ho : 0 ≤ o ∧ o ≤ 23) (q : ∀ j : Nat, Xi S 6 j ≤ 15) (q2 : ∀ j : Nat, Xi S 21 j ≤ 15) : trw T o p = trw S o p := by
  unfold trw; rw [(h.1 21 _ (by omega)).1, (h.1 (66 + o.toNat) _ (by omega)).1, trwn_x h 16 _ (q2 _) q]
theorem fvn_x {S T : sS} {t : Int} (h : XW S T) : ∀ (f : Nat) (k : Int), fvn T t f k = fvn S t f k
  | 0, _ => rfl
  | f + 1, k => by unfold fvn; rw [(h.1 8 _ (by omega)).1, fvn_x h f]
theorem vof_x {S T : sS} {o : Int} {p : Nat} (h : XW S T) (hH : HI S) (ho : 0 ≤ o ∧ o ≤ 23) : vof T o p = vof S o p ∧ lof T o p = lof S o p := by
  have e := trw_x (p := p) h ho (fun j => (show -1 ≤ Xi S 6 j ∧ Xi S 6 j ≤ 15 from hH.c _ _).2) (fun j => (show 0 ≤ Xi S 21 j ∧ Xi S 21 j ≤ 15 from hH.c _ _).2)
  have r := trw_row (p := p) ho.1 ho.2 hH
  unfold vof lof fvo
  rw [e, (h.1 9 _ (by omega)).1, (h.1 5 _ (by omega)).1, fvn_x h]
  by_cases q : trw S o p = -1
  · rw [if_pos q, if_pos q, if_pos q, if_pos q]; exact ⟨rfl, rfl⟩
  · rw [if_neg q, if_neg q, if_neg q, if_neg q, (h.1 (107 + (trw S o p).toNat) _ (by omega)).1, (h.1 (148 + (trw S o p).toNat) _ (by omega)).1]; exact ⟨rfl, rfl⟩
theorem txL_x {S T : sS} {a n : Int} (h : XW S T) (x : TXT S a n) : txL T (txr T) a n.toNat = txL S (txr S) a n.toNat := by
  by_cases q : 0 < n
  · unfold txL
    refine List.map_congr_left (fun i _ => h.2.2 (txe x q).2 _)
  · rw [txL_0 (by omega), txL_0 (by omega)]
/-- names as lists -/
def nmC (S : sS) (so wh : Int) : Nat → Nat → List Int
  | 0, _ => []
  | f + 1, k => if nbC S so wh k = -1 then [] else nbC S so wh k :: nmC S so wh f (k + 1)
theorem nmC_x {S T : sS} {so wh : Int} (h : XW S T) : ∀ (f k : Nat), nmC T so wh f k = nmC S so wh f k
  | 0, _ => rfl
  | f + 1, k => by unfold nmC; rw [nbC_x h, nmC_x h f]
def nmQ (S : sS) (so wh : Int) : List Int := nmC S so wh 42 0
def NAM (S T : sS) (so wh v : Int) : Prop := ∃ L : List Int, T = wlF S L ∧ L ++ nmC S so wh (42 - v).toNat v.toNat = nmQ S so wh
theorem nam_0 {S : sS} {so wh : Int} : NAM S S so wh 0 := ⟨[], rfl, rfl⟩
theorem nam_s {S T U : sS} {so wh v b : Int} (h : NAM S T so wh v) (hv : 0 ≤ v ∧ v < 42) (hb : b = nbC S so wh v) (hn : b ≠ -1) (e : U = wrU T b) : NAM S U so wh (v + 1) := by
  obtain ⟨L, h1, h2⟩ := h
  refine ⟨L ++ [b], wl_s h1 e, ?_⟩
  rw [show (42 - v).toNat = (42 - (v + 1)).toNat + 1 by omega] at h2
  unfold nmC at h2
  rw [show ((v.toNat : Nat) : Int) = v by omega, ← hb, if_neg hn] at h2
  rw [List.append_assoc, ← h2, show (v + 1).toNat = v.toNat + 1 by omega]; rfl
theorem nam_e {S T : sS} {so wh v : Int} (h : NAM S T so wh v) (hv : 0 ≤ v) (q : 42 ≤ v ∨ nbC S so wh v = -1) : T = wlF S (nmQ S so wh) := by
  obtain ⟨L, h1, h2⟩ := h
  have e : nmC S so wh (42 - v).toNat v.toNat = [] := by
    rcases q with q | q
    · rw [show (42 - v).toNat = 0 by omega]; rfl
    · cases (42 - v).toNat with
      | zero => rfl
      | succ f => unfold nmC; rw [show ((v.toNat : Nat) : Int) = v by omega, if_pos q]
  rw [e, List.append_nil] at h2
  rw [← h2]; exact h1
/-- a number's list -/
def ndF : Nat → Int → Nat
  | 0, _ => 0
  | f + 1, a => if a ≤ 9 then 0 else ndF f (a / 10) + 1
theorem ndF_i : ∀ (f : Nat) (a : Int), 0 ≤ a → a < 10 ^ (f + 1) → NDG a (ndF f a)
  | 0, a, h0, h => ⟨by unfold ndF; rw [Int.pow_zero, Int.ediv_one]; rw [Int.pow_succ, Int.pow_zero] at h; omega, fun j hj => absurd hj (by unfold ndF; omega)⟩
  | f + 1, a, h0, h => by
    unfold ndF
    by_cases q : a ≤ 9
    · rw [if_pos q]; exact ⟨by rw [Int.pow_zero, Int.ediv_one]; exact q, fun j hj => absurd hj (by omega)⟩
    · rw [if_neg q]
      rw [Int.pow_succ] at h
      obtain ⟨x, y⟩ := ndF_i f (a / 10) (by omega) (by omega)
      have e : ∀ j : Nat, a / 10 ^ (j + 1) = a / 10 / 10 ^ j := fun j => by
        rw [Int.ediv_ediv_of_nonneg (by decide), Int.pow_succ, Int.mul_comm]
      refine ⟨by rw [e]; exact x, fun j hj => ?_⟩
      cases j with
      | zero => rw [Int.pow_zero, Int.ediv_one]; omega
      | succ j => rw [e]; exact y j (by omega)
def nmL (x : Int) : List Int := nmX x (ndF 10 (if x < 0 then -x else x))
theorem nmz_l {P : List Int → Prop} {x : Int} (h : NMZ P x) (hx : -2147483648 ≤ x ∧ x ≤ 2147483647) : P (nmL x) := by
  obtain ⟨k, h1, h2⟩ := h
  unfold nmL
  by_cases q : x = -2147483648
  · unfold nmX at h2 ⊢
    rw [if_pos q] at h2 ⊢; exact h2
  · have t := ndF_i 10 (if x < 0 then -x else x) (by split <;> omega) (by rw [show (10 : Int) ^ (10 + 1) = 100000000000 by decide]; split <;> omega)
    rw [ndg_u t (h1 q)]; exact h2
/-- an insert -/
def insL (S : sS) (o p : Int) : List Int := if p = -1 then nmQ S 2 o else if Xi S 9 p.toNat = 1 then txL S (txr S) (vof S o p.toNat) (lof S o p.toNat).toNat else if Xi S 9 p.toNat = 0 then nmL (vof S o p.toNat) else if vof S o p.toNat = -1 then [] else nmQ S 4 (vof S o p.toNat)
theorem insL_x {S T : sS} {o p : Int} (h : XW S T) (hH : HI S) (hX : TX S) (ho : p ≠ -1 → 0 ≤ o ∧ o ≤ 23) (hp : p ≤ 11) : insL T o p = insL S o p := by
  unfold insL
  by_cases q : p = -1
  · rw [if_pos q, if_pos q]; unfold nmQ; rw [nmC_x h]
  · rw [if_neg q, if_neg q]
    obtain ⟨a, b⟩ := vof_x (p := p.toNat) h hH (ho q)
    rw [a, b, (h.1 9 _ (by omega)).1]
    have c : nmQ T 4 (vof S o p.toNat) = nmQ S 4 (vof S o p.toNat) := by unfold nmQ; rw [nmC_x h]
    rw [c]
    by_cases r : Xi S 9 p.toNat = 1
    · rw [if_pos r, if_pos r]
      exact txL_x h (TX_v hX hH rfl rfl (ho q).1 (ho q).2 (by omega))
    · rw [if_neg r, if_neg r]
/-- what a text says -/
def thI (S : sS) (i : Int) : Int := if 0 ≤ i ∧ i < Xi S 246 8 then Xi S 274 i.toNat else -1
def ppI (S : sS) (i : Int) : Int := if 0 ≤ i ∧ i < Xi S 246 8 then Xi S 275 i.toNat else -1
theorem thi_i {S T : sS} {i z : Int} (h : XW S T) (q : 0 ≤ i → i < Xi T 246 8 → z = Xi T 274 i.toNat) (n : i < 0 ∨ Xi T 246 8 ≤ i → z = -1) : z = thI S i := by
  unfold thI
  rw [(h.1 246 8 (by omega)).1] at q n
  rw [(h.1 274 _ (by omega)).1] at q
  by_cases x : 0 ≤ i ∧ i < Xi S 246 8
  · rw [if_pos x]; exact q x.1 x.2
  · rw [if_neg x]; exact n (by omega)
theorem ppi_i {S T : sS} {i z : Int} (h : XW S T) (q : 0 ≤ i → i < Xi T 246 8 → z = Xi T 275 i.toNat) (n : i < 0 ∨ Xi T 246 8 ≤ i → z = -1) : z = ppI S i := by
  unfold ppI
  rw [(h.1 246 8 (by omega)).1] at q n
  rw [(h.1 275 _ (by omega)).1] at q
  by_cases x : 0 ≤ i ∧ i < Xi S 246 8
  · rw [if_pos x]; exact q x.1 x.2
  · rw [if_neg x]; exact n (by omega)
def syL (S : sS) (noun a : Int) : Nat → Int → Int → Int → List Int
  | 0, _, _, _ => []
  | f + 1, i, nx, ins => if Xi S (txr S) (a + i).toNat = 91 then insL S (whU noun (thI S nx)) (ppI S nx) ++ syL S noun a f (i + 1) (nx + 1) 1 else if Xi S (txr S) (a + i).toNat = 93 then syL S noun a f (i + 1) nx 0 else if ins = 0 then Xi S (txr S) (a + i).toNat :: syL S noun a f (i + 1) nx 0 else syL S noun a f (i + 1) nx ins
def syA (S : sS) (cl : Nat) (noun : Int) : List Int := syL S noun (Xi S (276 + cl) 4) (Xi S (276 + cl) 5 - 0).toNat 0 (Xi S (276 + cl) 3) 0
def SYI (S T : sS) (cl : Nat) (noun i nx ins : Int) : Prop := ∃ L : List Int, T = wlF S L ∧ L ++ syL S noun (Xi S (276 + cl) 4) (Xi S (276 + cl) 5 - i).toNat i nx ins = syA S cl noun
theorem sy_0 {S : sS} {cl : Nat} {noun : Int} : SYI S S cl noun 0 (Xi S (276 + cl) 3) 0 := ⟨[], rfl, rfl⟩
theorem sy_i {S T U : sS} {cl : Nat} {noun i nx ins : Int} (h : SYI S T cl noun i nx ins) (hi : i < Xi S (276 + cl) 5) (b : Xi S (txr S) (Xi S (276 + cl) 4 + i).toNat = 91) (e : U = wlF T (insL S (whU noun (thI S nx)) (ppI S nx))) : SYI S U cl noun (i + 1) (nx + 1) 1 := by
  obtain ⟨L, h1, h2⟩ := h
  refine ⟨L ++ insL S (whU noun (thI S nx)) (ppI S nx), wl_l h1 e, ?_⟩
  rw [show (Xi S (276 + cl) 5 - i).toNat = (Xi S (276 + cl) 5 - (i + 1)).toNat + 1 by omega] at h2
  unfold syL at h2
  rw [if_pos b] at h2
  rw [List.append_assoc]; exact h2
theorem sy_c {S T : sS} {cl : Nat} {noun i nx ins : Int} (h : SYI S T cl noun i nx ins) (hi : i < Xi S (276 + cl) 5) (b : Xi S (txr S) (Xi S (276 + cl) 4 + i).toNat = 93) : SYI S T cl noun (i + 1) nx 0 := by
  obtain ⟨L, h1, h2⟩ := h
  refine ⟨L, h1, ?_⟩
  rw [show (Xi S (276 + cl) 5 - i).toNat = (Xi S (276 + cl) 5 - (i + 1)).toNat + 1 by omega] at h2
  unfold syL at h2
  rw [if_neg (by omega), if_pos b] at h2
  exact h2
theorem sy_w {S T U : sS} {cl : Nat} {noun i nx ins b : Int} (h : SYI S T cl noun i nx ins) (hi : i < Xi S (276 + cl) 5) (eb : b = Xi S (txr S) (Xi S (276 + cl) 4 + i).toNat) (b1 : b ≠ 91) (b2 : b ≠ 93) (z : ins = 0) (e : U = wrU T b) : SYI S U cl noun (i + 1) nx ins := by
  obtain ⟨L, h1, h2⟩ := h
  refine ⟨L ++ [b], wl_s h1 e, ?_⟩
  rw [show (Xi S (276 + cl) 5 - i).toNat = (Xi S (276 + cl) 5 - (i + 1)).toNat + 1 by omega] at h2
  unfold syL at h2
  rw [if_neg (by omega), if_neg (by omega), if_pos z, ← eb] at h2
  rw [List.append_assoc, z]; exact h2
theorem sy_n {S T : sS} {cl : Nat} {noun i nx ins : Int} (h : SYI S T cl noun i nx ins) (hi : i < Xi S (276 + cl) 5) (b1 : Xi S (txr S) (Xi S (276 + cl) 4 + i).toNat ≠ 91) (b2 : Xi S (txr S) (Xi S (276 + cl) 4 + i).toNat ≠ 93) (z : ins ≠ 0) : SYI S T cl noun (i + 1) nx ins := by
  obtain ⟨L, h1, h2⟩ := h
  refine ⟨L, h1, ?_⟩
  rw [show (Xi S (276 + cl) 5 - i).toNat = (Xi S (276 + cl) 5 - (i + 1)).toNat + 1 by omega] at h2
  unfold syL at h2
  rw [if_neg b1, if_neg b2, if_neg z] at h2
  exact h2
theorem sy_e {S T : sS} {cl : Nat} {noun i nx ins : Int} (h : SYI S T cl noun i nx ins) (hi : Xi S (276 + cl) 5 ≤ i) : T = wlF S (syA S cl noun) := by
  obtain ⟨L, h1, h2⟩ := h
  rw [show (Xi S (276 + cl) 5 - i).toNat = 0 by omega] at h2
  rw [← h2]
  show T = wlF S (L ++ [])
  rw [List.append_nil]; exact h1
/-- the words of the class's names are codes -/
def CW (S : sS) : Prop := ∀ i : Nat, (i : Int) < 3 * Xi S 1 3 → cd7 (Xj S 2 i)
theorem CW_FR {l : List rec} {S T : sS} (F : FR l S T) (e1 : mdf l 1 3 = false) (e2 : l.all (fun r => Nat.ble r.2.1 2 || Nat.ble (2 + 1) r.1) = true) (h : CW S) : CW T := fun i hi => by
  rw [F.x 1 3 e1] at hi
  rw [(F.cx 2 e2 i).2]; exact h i hi
section
variable {lay : Nat → Nat × Nat} {d pc : Nat} {q : mT} {L : List (Nat × Value)} {st : List Value} {S : sS} {Q : pst}
theorem l_l2iE {x : Int} (hc : lk q.2.2.2.2.2 pc = some .l2i) (h : ∀ c : Int, (-2147483648 ≤ c ∧ c ≤ 2147483647) → (-2147483648 ≤ x → x ≤ 2147483647 → c = x) → Rl lay d q (pc + 1) L (iv c :: st) S Q) : Rl lay d q pc L (jw x :: st) S Q :=
  Rl_s hc rfl (fun lv ha => ⟨lv, by
    show some (pc + 1, lv, Value.int (Int64.ofInt x).toInt32 :: st, S) = _
    rw [← ofI_toI (v := (Int64.ofInt x).toInt32)]; rfl, ha⟩) (h _ ⟨rg_toI.1, Int.le_of_lt_add_one rg_toI.2⟩ (fun a b => by
    rw [Int64.toInt_toInt32, toJ ⟨by omega, by omega⟩]
    exact Int.bmod_eq_of_le (by omega) (by omega)))
end

abbrev Q_vo_nameByte__w (S : sS) (sort : Int) (which : Int) (k : Int) : pst := fun r S1 => S = S1 ∧ (∃ z : Int, r = some (iv z) ∧ (-2147483648 ≤ z ∧ z ≤ 2147483647) ∧ (z = nbC S sort which k))
set_option maxRecDepth 100000 in
theorem t_vo_nameByte__w {S : sS} (hH : HI S) (sort : Int) (which : Int) (k : Int) (hsort : -2147483648 ≤ sort ∧ sort ≤ 2147483647) (hwhich : -2147483648 ≤ which ∧ which ≤ 2147483647) (hk : -2147483648 ≤ k ∧ k ≤ 2147483647) (cw : CW S) (d : Nat) : Mt lay0 (d + 1) m_vo_nameByte [.ref 1, iv sort, iv which, iv k] S (Q_vo_nameByte__w S sort which k) := by
  refine Mt_R rfl rfl ?_
  have w1 : 0 ≤ Xi S 1 3 ∧ Xi S 1 3 ≤ 200 := hH.c _ _
  have C6 : ∀ (n6 : Nat) (v4 : Int) (v5 : Int), (-2147483648 ≤ v4 ∧ v4 ≤ 2147483647) → (0 ≤ v5 ∧ v5 ≤ 600) → (nbC S sort which k = nbS S sort which (3 * Xi S 1 3 - v5).toNat v5.toNat v4) → n6 = (601 - v5).toNat → Rl lay0 (d + 0) m_vo_nameByte 6 [(0, .ref 1), (1, iv sort), (2, iv which), (4, iv v4), (5, iv v5)] [] S (Q_vo_nameByte__w S sort which k) := by
    intro n6
    induction n6 using Nat.strongRecOn with
    | ind n6 ih6 =>
      intro v4 v5 w2 w3 f6 hm6
      have C202 : ∀  (v4 : Int) (v5 : Int), (-13 ≤ v4 ∧ v4 ≤ 2147483647) → (0 ≤ v5 ∧ v5 ≤ 599) → (v5 < 3 * Xi S 1 3) → (nbC S sort which k = nbS S sort which (3 * Xi S 1 3 - (v5 + 1)).toNat (v5 + 1).toNat v4) → ((601 - v5).toNat ≤ n6) → Rl lay0 (d + 0) m_vo_nameByte 202 [(0, .ref 1), (1, iv sort), (2, iv which), (4, iv v4), (5, iv v5)] [] S (Q_vo_nameByte__w S sort which k) := by
        intro v4 v5 w4 w5 w6 f202 w7
        refine l_iinc rfl rfl rfl rfl ?_
        refine l_goto rfl rfl ?_
        exact Rl_weak (ih6 _ (by omega) (v4) ((v5 + 1)) (by omega) (by omega) (by first | exact f202 | rfl) rfl) (And.intro rfl (And.intro rfl (And.intro rfl (And.intro rfl (And.intro rfl (True.intro))))))
      have C94 : ∀  (v4 : Int) (v5 : Int) (v6 : Int) (v8 : Int), (0 ≤ v4 ∧ v4 ≤ 2147483647) → (0 ≤ v5 ∧ v5 ≤ 599) → (0 ≤ v8 ∧ v8 ≤ 1) → (0 ≤ v4 ∧ 0 ≤ v8 ∧ v8 ≤ 1) → (v8 = 0 → 1 ≤ v4) → (v5 < 600) → (-9223372036854775808 ≤ v6 ∧ v6 ≤ 9223372036854775807) → (v5 < 3 * Xi S 1 3) → (0 < v6 ∧ v6 < 4052555153018976267) → (nbC S sort which k = nbT S sort which (3 * Xi S 1 3 - (v5 + 1)).toNat (v5 + 1).toNat v6 (v4 - (1 - v8))) → ((601 - v5).toNat ≤ n6) → Rl lay0 (d + 0) m_vo_nameByte 94 [(0, .ref 1), (1, iv sort), (2, iv which), (4, iv v4), (5, iv v5), (6, jw v6), (8, iv v8)] [] S (Q_vo_nameByte__w S sort which k) := by
        intro v4 v5 v6 v8 w8 w9 w10 w11 w12 w13 w14 w15 w16 f94 w17
        have C115 : ∀ (n115 : Nat) (v4 : Int) (v5 : Int) (v6 : Int) (v9 : Int) (v10 : Int), (-1 ≤ v4 ∧ v4 ≤ 2147483647) → (0 ≤ v5 ∧ v5 ≤ 599) → (1 ≤ v9 ∧ v9 ≤ 14) → (0 ≤ v4) → (v5 < 600) → (-9223372036854775808 ≤ v6 ∧ v6 ≤ 9223372036854775807) → (1 ≤ v10 ∧ v10 ≤ 9223372036854775807) → (1 ≤ v9 ∧ v9 ≤ 14) → (v10 = p27 v9) → (v5 < 3 * Xi S 1 3) → (0 < v6 ∧ v6 < 4052555153018976267) → (v10 ≤ v6) → (nbC S sort which k = nbT S sort which (3 * Xi S 1 3 - (v5 + 1)).toNat (v5 + 1).toNat v6 v4) → ((601 - v5).toNat ≤ n6) → n115 = (9223372036854775808 - v10).toNat → Rl lay0 (d + 0) m_vo_nameByte 115 [(0, .ref 1), (1, iv sort), (2, iv which), (4, iv v4), (5, iv v5), (6, jw v6), (9, iv v9), (10, jw v10)] [] S (Q_vo_nameByte__w S sort which k) := by
          intro n115
          induction n115 using Nat.strongRecOn with
          | ind n115 ih115 =>
            intro v4 v5 v6 v9 v10 w18 w19 w20 w21 w22 w23 w24 w25 hp w26 w27 w28 f115 w29 hm115
            have C151 : ∀ (n151 : Nat) (v4 : Int) (v6 : Int) (v10 : Int) (v12 : Int), (-1 ≤ v4 ∧ v4 ≤ 13) → (0 ≤ v12 ∧ v12 ≤ 13) → (0 ≤ v4) → (1 ≤ v10 ∧ v10 ≤ 9223372036854775807) → (-9223372036854775808 ≤ v6 ∧ v6 ≤ 9223372036854775807) → (0 < v6 ∧ v6 < 4052555153018976267) → (v4 < ln7 v6 ∧ ln7 v6 ≤ 14) → (v12 ≤ v4) → (nbC S sort which k = ch7 v6 v4) → (v10 = p27 (ln7 v6 - v12)) → n151 = (v4 - v12).toNat → Rl lay0 (d + 0) m_vo_nameByte 151 [(4, iv v4), (6, jw v6), (10, jw v10), (12, iv v12)] [] S (Q_vo_nameByte__w S sort which k) := by
              intro n151
              induction n151 using Nat.strongRecOn with
              | ind n151 ih151 =>
                intro v4 v6 v10 v12 w30 w31 w32 w33 w34 w35 w36 w37 f151 u151 hm151
                refine l_iload rfl rfl ?_
                refine l_iload rfl rfl ?_
                refine l_icmp_ge rfl rfl (by unfold rg; omega) (by unfold rg; omega) (fun w38 => ?_) (fun w39 => ?_)
                · refine l_bipush rfl rfl ?_
                  refine l_lload rfl rfl ?_
                  have u151x : v10 = p27 (ln7 v6 - v4) := by rw [u151]; congr 1; omega
                  have d183 : 0 ≤ v6 / v10 := Int.ediv_nonneg (by omega) (by omega)
                  refine l_lload rfl rfl ?_
                  refine l_ldivA rfl (by omega) (by unfold rgL at *; omega) (by unfold rgL at *; omega) (fun c40 w40 w40b w40c => ?_)
                  refine l_ldc2 (z := 27) rfl rfl ?_
                  refine l_lremA rfl (by omega) (by unfold rgL at *; omega) (by unfold rgL at *; omega) (fun c41 w41 w41b w41c => ?_)
                  refine l_l2iE rfl (fun c42 w42 w42d => ?_)
                  refine l_iaddE rfl (fun c43 w43 w43d => ?_)
                  have z193 : c43 = 96 + v6 / v10 % 27 := by omega
                  refine l_ireturn rfl rfl ?_
                  exact ⟨rfl, _, rfl, ⟨by omega, by omega⟩, (by first | (have t := f151; exact (ch_e u151x rfl z193).trans f151.symm) | (rw [f6]; exact (nb_e (by omega)).symm) | (rw [f6]; exact (nb_32 (by omega) (by omega) (by omega) (by omega) (by omega) (by omega)).symm))⟩
                · refine l_lload rfl rfl ?_
                  have u158 := p27_d u151 (by omega)
                  refine l_ldc2 (z := 27) rfl rfl ?_
                  refine l_lcmp rfl (by unfold rgL; omega) (by unfold rgL; omega) (fun c44 w44 w44a w44b w44c => ?_)
                  refine l_if_lt rfl rfl (by unfold rg; omega) (fun w45 => ?_) (fun w46 => ?_)
                  · refine l_bipush rfl rfl ?_
                    refine l_lload rfl rfl ?_
                    have u151x : v10 = p27 (ln7 v6 - v4) := by rw [u151]; congr 1; omega
                    have d183 : 0 ≤ v6 / v10 := Int.ediv_nonneg (by omega) (by omega)
                    refine l_lload rfl rfl ?_
                    refine l_ldivA rfl (by omega) (by unfold rgL at *; omega) (by unfold rgL at *; omega) (fun c47 w47 w47b w47c => ?_)
                    refine l_ldc2 (z := 27) rfl rfl ?_
                    refine l_lremA rfl (by omega) (by unfold rgL at *; omega) (by unfold rgL at *; omega) (fun c48 w48 w48b w48c => ?_)
                    refine l_l2iE rfl (fun c49 w49 w49d => ?_)
                    refine l_iaddE rfl (fun c50 w50 w50d => ?_)
                    have z193 : c50 = 96 + v6 / v10 % 27 := by omega
                    refine l_ireturn rfl rfl ?_
                    exact ⟨rfl, _, rfl, ⟨by omega, by omega⟩, (by first | (have t := f151; exact (ch_e u151x rfl z193).trans f151.symm) | (rw [f6]; exact (nb_e (by omega)).symm) | (rw [f6]; exact (nb_32 (by omega) (by omega) (by omega) (by omega) (by omega) (by omega)).symm))⟩
                  · refine l_lload rfl rfl ?_
                    refine l_ldc2 (z := 27) rfl rfl ?_
                    refine l_ldivA rfl (by omega) (by unfold rgL at *; omega) (by unfold rgL at *; omega) (fun c51 w51 w51b w51c => ?_)
                    refine l_lstore rfl rfl rfl rfl ?_
                    refine l_iinc rfl rfl rfl rfl ?_
                    refine l_goto rfl rfl ?_
                    exact Rl_weak (ih151 _ (by omega) (v4) (v6) (c51) ((v12 + 1)) (by omega) (by omega) (by omega) (by omega) (by omega) (by omega) (by omega) (by omega) (by first | exact f151 | (have t := u141; exact f115.trans (nbt_1 (by omega)))) (by first | (have t := f151; have u := (p27_d u151 (by omega)).1; rw [show ln7 v6 - (v12 + 1) = ln7 v6 - v12 - 1 by omega, ← u]; omega) | (have t := u141; rw [u141, hp]; congr 1; omega)) rfl) (And.intro rfl (And.intro rfl (And.intro rfl (And.intro rfl (True.intro)))))
            refine l_lload rfl rfl ?_
            refine l_lload rfl rfl ?_
            refine l_ldc2 (z := 27) rfl rfl ?_
            refine l_ldivA rfl (by omega) (by unfold rgL at *; omega) (by unfold rgL at *; omega) (fun c52 w52 w52b w52c => ?_)
            refine l_lcmp rfl (by unfold rgL; omega) (by unfold rgL; omega) (fun c53 w53 w53a w53b w53c => ?_)
            have hpb : v10 ≤ 341606371735362066 → v9 ≤ 13 := fun h => p27_b hp h
            refine l_if_gt rfl rfl (by unfold rg; omega) (fun w54 => ?_) (fun w55 => ?_)
            · refine l_iload rfl rfl ?_
              have u141 : ln7 v6 = v9 := ln7_i (w := v6) (n := v9) (by omega) (by omega) (by omega)
              refine l_iload rfl rfl ?_
              refine l_icmp_ge rfl rfl (by unfold rg; omega) (by unfold rg; omega) (fun w56 => ?_) (fun w57 => ?_)
              · refine l_iload rfl rfl ?_
                refine l_iload rfl rfl ?_
                refine l_isub rfl ?_
                refine l_istore rfl rfl rfl ?_
                exact Rl_weak (C202 ((v4 - v9)) (v5) (by omega) (by omega) (by omega) (by first | (have t := u141; rw [f115, nbt_2 (by omega), u141]) | exact f6.trans (nb_k (by omega) (by omega) (by omega))) (by omega)) (And.intro rfl (And.intro rfl (And.intro rfl (And.intro rfl (And.intro rfl (True.intro))))))
              · refine l_iconst rfl ?_
                refine l_istore rfl rfl rfl ?_
                exact Rl_weak (C151 _ (v4) (v6) (v10) (0) (by omega) (by omega) (by omega) (by omega) (by omega) (by omega) (by omega) (by omega) (by first | exact f151 | (have t := u141; exact f115.trans (nbt_1 (by omega)))) (by first | (have t := f151; have u := (p27_d u151 (by omega)).1; rw [show ln7 v6 - (v12 + 1) = ln7 v6 - v12 - 1 by omega, ← u]; omega) | (have t := u141; rw [u141, hp]; congr 1; omega)) rfl) (And.intro rfl (And.intro rfl (And.intro rfl (And.intro rfl (True.intro)))))
            · refine l_lload rfl rfl ?_
              refine l_ldc2 (z := 27) rfl rfl ?_
              refine l_lmul rfl ?_
              refine l_lstore rfl rfl rfl rfl ?_
              refine l_iinc rfl rfl rfl rfl ?_
              refine l_goto rfl rfl ?_
              exact Rl_weak (ih115 _ (by omega) (v4) (v5) (v6) ((v9 + 1)) ((v10 * 27)) (by omega) (by omega) (by omega) (by omega) (by omega) (by omega) (by omega) (by omega) (by first | exact p27_1 | exact p27_s hp (by omega)) (by omega) (by omega) (by omega) (by first | exact f115 | (rw [f94]; congr 1; omega)) (by omega) rfl) (And.intro rfl (And.intro rfl (And.intro rfl (And.intro rfl (And.intro rfl (And.intro rfl (And.intro rfl (And.intro rfl (True.intro)))))))))
        refine l_iload rfl rfl ?_
        refine l_iload rfl rfl ?_
        refine l_if_eq rfl rfl (by unfold rg; omega) (fun w58 => ?_) (fun w59 => ?_)
        · refine l_iconst rfl ?_
          refine l_isub rfl ?_
          refine l_istore rfl rfl rfl ?_
          refine l_iconst rfl ?_
          refine l_istore rfl rfl rfl ?_
          refine l_lconst (z := 1) rfl rfl ?_
          refine l_lstore rfl rfl rfl rfl ?_
          exact Rl_weak (C115 _ ((v4 - 1)) (v5) (v6) (1) (1) (by omega) (by omega) (by omega) (by omega) (by omega) (by omega) (by omega) (by omega) (by first | exact p27_1 | exact p27_s hp (by omega)) (by omega) (by omega) (by omega) (by first | exact f115 | (rw [f94]; congr 1; omega)) (by omega) rfl) (And.intro rfl (And.intro rfl (And.intro rfl (And.intro rfl (And.intro rfl (And.intro rfl (And.intro rfl (And.intro rfl (True.intro)))))))))
        · refine l_iconst rfl ?_
          refine l_goto rfl rfl ?_
          refine l_isub rfl ?_
          refine l_istore rfl rfl rfl ?_
          refine l_iconst rfl ?_
          refine l_istore rfl rfl rfl ?_
          refine l_lconst (z := 1) rfl rfl ?_
          refine l_lstore rfl rfl rfl rfl ?_
          exact Rl_weak (C115 _ ((v4 - 0)) (v5) (v6) (1) (1) (by omega) (by omega) (by omega) (by omega) (by omega) (by omega) (by omega) (by omega) (by first | exact p27_1 | exact p27_s hp (by omega)) (by omega) (by omega) (by omega) (by first | exact f115 | (rw [f94]; congr 1; omega)) (by omega) rfl) (And.intro rfl (And.intro rfl (And.intro rfl (And.intro rfl (And.intro rfl (And.intro rfl (And.intro rfl (And.intro rfl (True.intro)))))))))
      refine l_iload rfl rfl ?_
      refine l_iconst rfl ?_
      refine l_aload_n rfl rfl ?_
      refine l_gfi rfl rfl rfl rfl rfl ?_
      refine l_imul rfl ?_
      refine l_icmp_ge rfl rfl (by unfold rg; omega) (by unfold rg; omega) (fun w60 => ?_) (fun w61 => ?_)
      · refine l_iconst rfl ?_
        refine l_ireturn rfl rfl ?_
        exact ⟨rfl, _, rfl, ⟨by omega, by omega⟩, (by first | (have t := f151; exact (ch_e u151x rfl z193).trans f151.symm) | (rw [f6]; exact (nb_e (by omega)).symm) | (rw [f6]; exact (nb_32 (by omega) (by omega) (by omega) (by omega) (by omega) (by omega)).symm))⟩
      · refine l_iload rfl rfl ?_
        refine l_if_lt rfl rfl (by unfold rg; omega) (fun w62 => ?_) (fun w63 => ?_)
        · refine l_iconst rfl ?_
          refine l_ireturn rfl rfl ?_
          exact ⟨rfl, _, rfl, ⟨by omega, by omega⟩, (by first | (have t := f151; exact (ch_e u151x rfl z193).trans f151.symm) | (rw [f6]; exact (nb_e (by omega)).symm) | (rw [f6]; exact (nb_32 (by omega) (by omega) (by omega) (by omega) (by omega) (by omega)).symm))⟩
        · refine l_aload_n rfl rfl ?_
          refine l_gfr rfl rfl rfl rfl rfl (hH.r 1 0 2 rfl) ?_
          refine l_iload rfl rfl ?_
          refine l_laload (n := 600) rfl rfl (by omega) (by omega) (by unfold rg; omega) ?_
          have w64 : -9223372036854775808 ≤ (Xj S 2 ((v5).toNat)) ∧ (Xj S 2 ((v5).toNat)) < 9223372036854775808 := Xj_rg
          have c28 := cw v5.toNat (by omega)
          unfold cd7 at c28
          refine l_lstore rfl rfl rfl rfl ?_
          refine l_lload rfl rfl ?_
          refine l_lconst (z := 0) rfl rfl ?_
          refine l_lcmp rfl (by unfold rgL; omega) (by unfold rgL; omega) (fun c65 w65 w65a w65b w65c => ?_)
          refine l_if_eq rfl rfl (by unfold rg; omega) (fun w66 => ?_) (fun w67 => ?_)
          · exact Rl_weak (C202 (v4) (v5) (by omega) (by omega) (by omega) (by first | (have t := u141; rw [f115, nbt_2 (by omega), u141]) | exact f6.trans (nb_k (by omega) (by omega) (by omega))) (by omega)) (And.intro rfl (And.intro rfl (And.intro rfl (And.intro rfl (And.intro rfl (True.intro))))))
          · refine l_aload_n rfl rfl ?_
            refine l_gfr rfl rfl rfl rfl rfl (hH.r 1 1 3 rfl) ?_
            refine l_iload rfl rfl ?_
            refine l_iconst rfl ?_
            refine l_idivP rfl (by omega) (by omega) (by unfold rg; omega) (by unfold rg; omega) ?_
            refine l_iaload (n := 200) rfl rfl (by omega) (by omega) (by unfold rg; omega) ?_
            have w69 : 0 ≤ (Xi S 3 (((v5 / 3)).toNat)) ∧ (Xi S 3 (((v5 / 3)).toNat)) ≤ 14 := hH.c _ _
            refine l_iload_n rfl rfl ?_
            refine l_icmp_ne rfl rfl (by unfold rg; omega) (by unfold rg; omega) (fun w70 => ?_) (fun w71 => ?_)
            · exact Rl_weak (C202 (v4) (v5) (by omega) (by omega) (by omega) (by first | (have t := u141; rw [f115, nbt_2 (by omega), u141]) | exact f6.trans (nb_k (by omega) (by omega) (by omega))) (by omega)) (And.intro rfl (And.intro rfl (And.intro rfl (And.intro rfl (And.intro rfl (True.intro))))))
            · refine l_aload_n rfl rfl ?_
              refine l_gfr rfl rfl rfl rfl rfl (hH.r 1 2 4 rfl) ?_
              refine l_iload rfl rfl ?_
              refine l_iconst rfl ?_
              refine l_idivP rfl (by omega) (by omega) (by unfold rg; omega) (by unfold rg; omega) ?_
              refine l_iaload (n := 200) rfl rfl (by omega) (by omega) (by unfold rg; omega) ?_
              have w73 : 0 ≤ (Xi S 4 (((v5 / 3)).toNat)) ∧ (Xi S 4 (((v5 / 3)).toNat)) ≤ 63 := hH.c _ _
              refine l_iload_n rfl rfl ?_
              refine l_icmp_eq rfl rfl (by unfold rg; omega) (by unfold rg; omega) (fun w74 => ?_) (fun w75 => ?_)
              · refine l_iload rfl rfl ?_
                refine l_iconst rfl ?_
                refine l_iremP rfl (by omega) (by omega) (by unfold rg; omega) (by unfold rg; omega) ?_
                refine l_if_ne rfl rfl (by unfold rg; omega) (fun w77 => ?_) (fun w78 => ?_)
                · refine l_iconst rfl ?_
                  refine l_istore rfl rfl rfl ?_
                  refine l_iload rfl rfl ?_
                  refine l_if_ne rfl rfl (by unfold rg; omega) (fun w79 => absurd w79 (by omega)) (fun w80 => ?_)
                  · refine l_iload rfl rfl ?_
                    refine l_if_ne rfl rfl (by unfold rg; omega) (fun w81 => ?_) (fun w82 => ?_)
                    · exact Rl_weak (C94 (v4) (v5) ((Xj S 2 ((v5).toNat))) (0) (by omega) (by omega) (by omega) (by omega) (by omega) (by omega) (by omega) (by omega) (by omega) (by exact f6.trans (nb_t (by omega) (by omega) (by omega) (by omega) (by omega) (by omega))) (by omega)) (And.intro rfl (And.intro rfl (And.intro rfl (And.intro rfl (And.intro rfl (And.intro rfl (And.intro rfl (True.intro))))))))
                    · refine l_bipush rfl rfl ?_
                      refine l_ireturn rfl rfl ?_
                      exact ⟨rfl, _, rfl, ⟨by omega, by omega⟩, (by first | (have t := f151; exact (ch_e u151x rfl z193).trans f151.symm) | (rw [f6]; exact (nb_e (by omega)).symm) | (rw [f6]; exact (nb_32 (by omega) (by omega) (by omega) (by omega) (by omega) (by omega)).symm))⟩
                · refine l_iconst rfl ?_
                  refine l_goto rfl rfl ?_
                  refine l_istore rfl rfl rfl ?_
                  refine l_iload rfl rfl ?_
                  refine l_if_ne rfl rfl (by unfold rg; omega) (fun w83 => ?_) (fun w84 => absurd w84 (by omega))
                  · exact Rl_weak (C94 (v4) (v5) ((Xj S 2 ((v5).toNat))) (1) (by omega) (by omega) (by omega) (by omega) (by omega) (by omega) (by omega) (by omega) (by omega) (by exact f6.trans (nb_t (by omega) (by omega) (by omega) (by omega) (by omega) (by omega))) (by omega)) (And.intro rfl (And.intro rfl (And.intro rfl (And.intro rfl (And.intro rfl (And.intro rfl (And.intro rfl (True.intro))))))))
              · refine l_goto rfl rfl ?_
                exact Rl_weak (C202 (v4) (v5) (by omega) (by omega) (by omega) (by first | (have t := u141; rw [f115, nbt_2 (by omega), u141]) | exact f6.trans (nb_k (by omega) (by omega) (by omega))) (by omega)) (And.intro rfl (And.intro rfl (And.intro rfl (And.intro rfl (And.intro rfl (True.intro))))))
  refine l_iload_n rfl rfl ?_
  refine l_istore rfl rfl rfl ?_
  refine l_iconst rfl ?_
  refine l_istore rfl rfl rfl ?_
  exact Rl_weak (C6 _ (k) (0) (by omega) (by omega) (by first | exact f202 | rfl) rfl) (And.intro rfl (And.intro rfl (And.intro rfl (And.intro rfl (And.intro rfl (True.intro))))))
def md_tu_writeName__w : List rec := [(900, 901, 4, 5), (901, 902, 0, 100000)]
abbrev Q_tu_writeName__w (S : sS) (s : Int) (w : Int) : pst := fun r S1 => HI S1 ∧ FR md_tu_writeName__w S S1 ∧ (r = none ∧ (S1 = wlF S (nmQ S s w)))
set_option maxRecDepth 100000 in
theorem t_tu_writeName__w {S : sS} (hH : HI S) (s : Int) (w : Int) (hs : -2147483648 ≤ s ∧ s ≤ 2147483647) (hw : -2147483648 ≤ w ∧ w ≤ 2147483647) (cw : CW S) (d : Nat) : Mt lay0 (d + 2) m_tu_writeName [.ref 900, iv s, iv w] S (Q_tu_writeName__w S s w) := by
  refine Mt_R rfl rfl ?_
  have hF : FR md_tu_writeName__w S S := FR.rf
  have C14 : ∀ (n14 : Nat) (T1 : sS) (_ : HI T1) (_ : FR md_tu_writeName__w S T1) (v3 : Int) (v4 : Int), (0 ≤ v3 ∧ v3 ≤ 42) → (-2147483648 ≤ v4 ∧ v4 ≤ 2147483647) → (NAM S T1 s w v3) → (v4 = nbC S s w v3) → n14 = (43 - v3).toNat → Rl lay0 (d + 1) m_tu_writeName 14 [(0, .ref 900), (1, iv s), (2, iv w), (3, iv v3), (4, iv v4)] [] T1 (Q_tu_writeName__w S s w) := by
    intro n14
    induction n14 using Nat.strongRecOn with
    | ind n14 ih14 =>
      intro T1 hHT1 hFT1 v3 v4 w1 w2 n14 w3 hm14
      refine l_iload rfl rfl ?_
      refine l_iconst rfl ?_
      refine l_icmp_eq rfl rfl (by unfold rg; omega) (by unfold rg; omega) (fun w4 => ?_) (fun w5 => ?_)
      · refine l_return rfl rfl ?_
        exact ⟨hHT1, hFT1, rfl, (nam_e n14 (by omega) (by omega))⟩
      · refine l_iload_n rfl rfl ?_
        refine l_bipush rfl rfl ?_
        refine l_icmp_ge rfl rfl (by unfold rg; omega) (by unfold rg; omega) (fun w6 => ?_) (fun w7 => ?_)
        · refine l_return rfl rfl ?_
          exact ⟨hHT1, hFT1, rfl, (nam_e n14 (by omega) (by omega))⟩
        · refine l_aload_n rfl rfl ?_
          refine l_iload rfl rfl ?_
          refine l_callV rfl rfl rfl (t_tu_write__w hHT1 v4 ⟨by omega, by omega⟩ _) ?_
          rintro _ T2 ⟨hHT2, w9, rfl, e29⟩
          have hFT2 : FR md_tu_writeName__w S T2 := FR.tr hFT1 w9 rfl
          show Rl _ _ _ _ _ [] _ _
          have N29 : NAM S T2 s w (v3 + 1) := nam_s n14 (by omega) (by omega) (by omega) e29
          refine l_iinc rfl rfl rfl rfl ?_
          refine l_aload_n rfl rfl ?_
          refine l_gfr rfl rfl rfl rfl rfl (hHT2.r 900 0 1 rfl) ?_
          refine l_iload_n rfl rfl ?_
          refine l_iload_n rfl rfl ?_
          refine l_iload_n rfl rfl ?_
          refine l_callV rfl rfl rfl (t_vo_nameByte__w hHT2 s w (v3 + 1) ⟨by omega, by omega⟩ ⟨by omega, by omega⟩ ⟨by omega, by omega⟩ (CW_FR hFT2 rfl rfl cw) _) ?_
          rintro _ _ ⟨rfl, z10, rfl, w10, q42⟩
          show Rl _ _ _ _ _ [iv z10] _ _
          have b42 : z10 = nbC S s w (v3 + 1) := by rw [q42, nbC_x (XW.f hFT2 rfl)]
          refine l_istore rfl rfl rfl ?_
          refine l_goto rfl rfl ?_
          exact Rl_weak (ih14 _ (by omega) T2 hHT2 hFT2 ((v3 + 1)) (z10) (by omega) (by omega) (by first | exact N29 | exact nam_0) (by omega) rfl) (And.intro rfl (And.intro rfl (And.intro rfl (And.intro rfl (And.intro rfl (True.intro))))))
  refine l_iconst rfl ?_
  refine l_istore_n rfl rfl rfl ?_
  refine l_aload_n rfl rfl ?_
  refine l_gfr rfl rfl rfl rfl rfl (hH.r 900 0 1 rfl) ?_
  refine l_iload_n rfl rfl ?_
  refine l_iload_n rfl rfl ?_
  refine l_iload_n rfl rfl ?_
  refine l_callV rfl rfl rfl (t_vo_nameByte__w hH s w 0 ⟨by omega, by omega⟩ ⟨by omega, by omega⟩ ⟨by omega, by omega⟩ (CW_FR hF rfl rfl cw) _) ?_
  rintro _ _ ⟨rfl, z11, rfl, w11, q9⟩
  show Rl _ _ _ _ _ [iv z11] _ _
  refine l_istore rfl rfl rfl ?_
  exact Rl_weak (C14 _ S hH hF (0) (z11) (by omega) (by omega) (by first | exact N29 | exact nam_0) (by omega) rfl) (And.intro rfl (And.intro rfl (And.intro rfl (And.intro rfl (And.intro rfl (True.intro))))))
def md_tu_writeInsert__w : List rec := [(900, 901, 4, 5), (901, 902, 0, 100000)]
abbrev Q_tu_writeInsert__w (S : sS) (o : Int) (p : Int) : pst := fun r S1 => HI S1 ∧ FR md_tu_writeInsert__w S S1 ∧ (r = none ∧ (S1 = wlF S (insL S o p)))
set_option maxRecDepth 100000 in
theorem t_tu_writeInsert__w {S : sS} (hH : HI S) (o : Int) (p : Int) (ho : -2 ≤ o ∧ o ≤ 23) (hp : -1 ≤ p ∧ p ≤ 11) (hX : TX S) (ho : p ≠ -1 → 0 ≤ o) (cw : CW S) (d : Nat) : Mt lay0 (d + 3) m_tu_writeInsert [.ref 900, iv o, iv p] S (Q_tu_writeInsert__w S o p) := by
  refine Mt_R rfl rfl ?_
  have hF : FR md_tu_writeInsert__w S S := FR.rf
  have C80 : ∀  (T1 : sS) (_ : HI T1) (_ : FR md_tu_writeInsert__w S T1), (T1 = wlF S (insL S o p)) → Rl lay0 (d + 2) m_tu_writeInsert 80 [] [] T1 (Q_tu_writeInsert__w S o p) := by
    intro T1 hHT1 hFT1 e80
    refine l_return rfl rfl ?_
    exact ⟨hHT1, hFT1, rfl, (by first | (have t := K8; unfold insL; rw [if_pos (by omega)]; exact e8) | exact e80)⟩
  refine l_iload_n rfl rfl ?_
  refine l_iconst rfl ?_
  refine l_icmp_ne rfl rfl (by unfold rg; omega) (by unfold rg; omega) (fun w1 => ?_) (fun w2 => ?_)
  · refine l_aload_n rfl rfl ?_
    refine l_gfr rfl rfl rfl rfl rfl (hH.r 900 1 20 rfl) ?_
    refine l_iload_n rfl rfl ?_
    refine l_iload_n rfl rfl ?_
    refine l_callV rfl rfl rfl (t_wo_valueOf hH o p ⟨by omega, by omega⟩ ⟨by omega, by omega⟩ _) ?_
    rintro _ _ ⟨rfl, z3, rfl, w3, q18⟩
    show Rl _ _ _ _ _ [iv z3] _ _
    refine l_istore_n rfl rfl rfl ?_
    refine l_aload_n rfl rfl ?_
    refine l_gfr rfl rfl rfl rfl rfl (hH.r 900 0 1 rfl) ?_
    refine l_gfr rfl rfl rfl rfl rfl (hH.r 1 8 9 rfl) ?_
    refine l_iload_n rfl rfl ?_
    refine l_iaload (n := 12) rfl rfl (by omega) (by omega) (by unfold rg; omega) ?_
    have w4 : 0 ≤ (Xi S 9 ((p).toNat)) ∧ (Xi S 9 ((p).toNat)) ≤ 7 := hH.c _ _
    refine l_istore rfl rfl rfl ?_
    refine l_iload rfl rfl ?_
    refine l_iconst rfl ?_
    refine l_icmp_ne rfl rfl (by unfold rg; omega) (by unfold rg; omega) (fun w5 => ?_) (fun w6 => ?_)
    · refine l_iload rfl rfl ?_
      refine l_if_ne rfl rfl (by unfold rg; omega) (fun w7 => ?_) (fun w8 => ?_)
      · refine l_iload_n rfl rfl ?_
        refine l_iconst rfl ?_
        refine l_icmp_eq rfl rfl (by unfold rg; omega) (by unfold rg; omega) (fun w9 => ?_) (fun w10 => ?_)
        · exact Rl_weak (C80 S hH hF  (by unfold insL; rw [if_neg (by omega)]; first | (have t := K50; rw [if_pos (by omega), ← q18, ← q47]; exact e50) | (have t := K63; rw [if_neg (by omega), if_pos (by omega), ← q18]; exact K63) | (have t := K77; rw [if_neg (by omega), if_neg (by omega), if_neg (by omega), ← q18]; exact e77) | (rw [if_neg (by omega), if_neg (by omega), if_pos (by omega)]; rfl))) (True.intro)
        · refine l_aload_n rfl rfl ?_
          refine l_iconst rfl ?_
          refine l_iload_n rfl rfl ?_
          refine l_callV rfl rfl rfl (t_tu_writeName__w hH 4 z3 ⟨by omega, by omega⟩ ⟨by omega, by omega⟩ (cw) _) ?_
          rintro _ T2 ⟨hHT2, w12, rfl, e77⟩
          have hFT2 : FR md_tu_writeInsert__w S T2 := FR.tr hF w12 rfl
          show Rl _ _ _ _ _ [] _ _
          have K77 : True := trivial
          exact Rl_weak (C80 T2 hHT2 hFT2  (by unfold insL; rw [if_neg (by omega)]; first | (have t := K50; rw [if_pos (by omega), ← q18, ← q47]; exact e50) | (have t := K63; rw [if_neg (by omega), if_pos (by omega), ← q18]; exact K63) | (have t := K77; rw [if_neg (by omega), if_neg (by omega), if_neg (by omega), ← q18]; exact e77) | (rw [if_neg (by omega), if_neg (by omega), if_pos (by omega)]; rfl))) (True.intro)
      · refine l_aload_n rfl rfl ?_
        refine l_iload_n rfl rfl ?_
        refine l_callV rfl rfl rfl (t_tu_writeNumber__w hH z3 ⟨by omega, by omega⟩ _) ?_
        rintro _ T3 ⟨hHT3, w14, rfl, e63⟩
        have hFT3 : FR md_tu_writeInsert__w S T3 := FR.tr hF w14 rfl
        show Rl _ _ _ _ _ [] _ _
        have K63 := nmz_l e63 (by omega)
        refine l_goto rfl rfl ?_
        exact Rl_weak (C80 T3 hHT3 hFT3  (by unfold insL; rw [if_neg (by omega)]; first | (have t := K50; rw [if_pos (by omega), ← q18, ← q47]; exact e50) | (have t := K63; rw [if_neg (by omega), if_pos (by omega), ← q18]; exact K63) | (have t := K77; rw [if_neg (by omega), if_neg (by omega), if_neg (by omega), ← q18]; exact e77) | (rw [if_neg (by omega), if_neg (by omega), if_pos (by omega)]; rfl))) (True.intro)
    · refine l_aload_n rfl rfl ?_
      refine l_iload_n rfl rfl ?_
      refine l_aload_n rfl rfl ?_
      refine l_gfr rfl rfl rfl rfl rfl (hH.r 900 1 20 rfl) ?_
      refine l_iload_n rfl rfl ?_
      refine l_iload_n rfl rfl ?_
      refine l_callV rfl rfl rfl (t_wo_lengthOf hH o p ⟨by omega, by omega⟩ ⟨by omega, by omega⟩ _) ?_
      rintro _ _ ⟨rfl, z15, rfl, w15, q47⟩
      show Rl _ _ _ _ _ [iv z15, iv z3, .ref 900] _ _
      refine l_callV rfl rfl rfl (t_tu_writeText__w hH z3 z15 ⟨by omega, by omega⟩ ⟨by omega, by omega⟩ (TX_v hX hH (by assumption) (by assumption) (by omega) (by omega) (by omega)) _) ?_
      rintro _ T4 ⟨hHT4, w17, rfl, e50⟩
      have hFT4 : FR md_tu_writeInsert__w S T4 := FR.tr hF w17 rfl
      show Rl _ _ _ _ _ [] _ _
      have K50 : True := trivial
      refine l_goto rfl rfl ?_
      exact Rl_weak (C80 T4 hHT4 hFT4  (by unfold insL; rw [if_neg (by omega)]; first | (have t := K50; rw [if_pos (by omega), ← q18, ← q47]; exact e50) | (have t := K63; rw [if_neg (by omega), if_pos (by omega), ← q18]; exact K63) | (have t := K77; rw [if_neg (by omega), if_neg (by omega), if_neg (by omega), ← q18]; exact e77) | (rw [if_neg (by omega), if_neg (by omega), if_pos (by omega)]; rfl))) (True.intro)
  · refine l_aload_n rfl rfl ?_
    refine l_iconst rfl ?_
    refine l_iload_n rfl rfl ?_
    refine l_callV rfl rfl rfl (t_tu_writeName__w hH 2 o ⟨by omega, by omega⟩ ⟨by omega, by omega⟩ (cw) _) ?_
    rintro _ T5 ⟨hHT5, w19, rfl, e8⟩
    have hFT5 : FR md_tu_writeInsert__w S T5 := FR.tr hF w19 rfl
    show Rl _ _ _ _ _ [] _ _
    have K8 : True := trivial
    refine l_return rfl rfl ?_
    exact ⟨hHT5, hFT5, rfl, (by first | (have t := K8; unfold insL; rw [if_pos (by omega)]; exact e8) | exact e80)⟩
def md_tu_sayText__w : List rec := [(900, 901, 4, 5), (901, 902, 0, 100000)]
abbrev Q_tu_sayText__w (S : sS) (cl : Nat) (noun : Int) : pst := fun r S1 => HI S1 ∧ FR md_tu_sayText__w S S1 ∧ (r = none ∧ (TX S1) ∧ (S1 = wlF S (syA S cl noun ++ [10])))
set_option maxRecDepth 100000 in
theorem t_tu_sayText__w {S : sS} (hH : HI S) (cl : Nat) (noun : Int) (hcl : cl < 600) (hnoun : -1 ≤ noun ∧ noun ≤ 23) (hk : CLok S (0 ≤ noun) cl) (hf : Xi S (276 + cl) 0 = 7) (hX : TX S) (cw : CW S) (d : Nat) : Mt lay0 (d + 4) m_tu_sayText [.ref 900, .ref (276 + cl), iv noun] S (Q_tu_sayText__w S cl noun) := by
  refine Mt_R rfl rfl ?_
  have hF : FR md_tu_sayText__w S S := FR.rf
  have hx := (hk.2.2.2.2.2.1 hf).1
  have hI := (hk.2.2.2.2.2.1 hf).2
  have hxb : 0 < Xi S (276 + cl) 5 → 0 ≤ Xi S (276 + cl) 4 ∧ Xi S (276 + cl) 4 + Xi S (276 + cl) 5 ≤ 5000 := hx.b
  have h3r := clc3 hH hcl
  have C11 : ∀ (n11 : Nat) (T1 : sS) (_ : HI T1) (_ : FR md_tu_sayText__w S T1) (v3 : Int) (v4 : Int) (v5 : Int), (-1 ≤ v3 ∧ v3 ≤ 7000) → (0 ≤ v4 ∧ v4 ≤ 1) → (0 ≤ v5 ∧ v5 ≤ 5000) → (v3 = Xi S (276 + cl) 3 + nbr S (txr S) (Xi S (276 + cl) 4) v5.toNat) → (v5 ≤ 0 ∨ v5 ≤ Xi S (276 + cl) 5) → (SYI S T1 cl noun v5 v3 v4) → n11 = (5001 - v5).toNat → Rl lay0 (d + 3) m_tu_sayText 11 [(0, .ref 900), (1, .ref (276 + cl)), (2, iv noun), (3, iv v3), (4, iv v4), (5, iv v5)] [] T1 (Q_tu_sayText__w S cl noun) := by
    intro n11
    induction n11 using Nat.strongRecOn with
    | ind n11 ih11 =>
      intro T1 hHT1 hFT1 v3 v4 v5 w1 w2 w3 hnx w4 y11 hm11
      have w5 : Xi T1 246 8 = Xi S 246 8 := hFT1.x _ _ rfl
      have C101 : ∀  (T2 : sS) (_ : HI T2) (_ : FR md_tu_sayText__w S T2) (v3 : Int) (v4 : Int) (v5 : Int), (-1 ≤ v3 ∧ v3 ≤ 7000) → (0 ≤ v4 ∧ v4 ≤ 1) → (0 ≤ v5 ∧ v5 ≤ 5000) → (v3 = Xi S (276 + cl) 3 + nbr S (txr S) (Xi S (276 + cl) 4) (v5 + 1).toNat) → (v5 < Xi S (276 + cl) 5) → (SYI S T2 cl noun (v5 + 1) v3 v4) → ((5001 - v5).toNat ≤ n11) → Rl lay0 (d + 3) m_tu_sayText 101 [(0, .ref 900), (1, .ref (276 + cl)), (2, iv noun), (3, iv v3), (4, iv v4), (5, iv v5)] [] T2 (Q_tu_sayText__w S cl noun) := by
        intro T2 hHT2 hFT2 v3 v4 v5 w6 w7 w8 hnx1 w9 y101 w10
        have w11 : Xi T2 246 8 = Xi S 246 8 := hFT2.x _ _ rfl
        refine l_iinc rfl rfl rfl rfl ?_
        refine l_goto rfl rfl ?_
        exact Rl_weak (ih11 _ (by omega) T2 hHT2 hFT2 (v3) (v4) ((v5 + 1)) (by omega) (by omega) (by omega) (by first | exact hnx1 | exact (show _ = _ + nbr S _ _ 0 by unfold nbr; omega) | (have e := nbr_y (S := S) (t := txr S) (v := Xi S (276 + cl) 4) (i := v5) (by omega) (by omega); omega) | (have e := nbr_n (S := S) (t := txr S) (v := Xi S (276 + cl) 4) (i := v5) (by omega) (by omega); omega)) (by omega) (by first | exact y101 | exact sy_0) rfl) (And.intro rfl (And.intro rfl (And.intro rfl (And.intro rfl (And.intro rfl (And.intro rfl (True.intro)))))))
      refine l_iload rfl rfl ?_
      have hnb := (nbr_le (S := S) (t := txr S) (v := Xi S (276 + cl) 4) v5.toNat v5.toNat (Nat.le_refl _)).2
      refine l_aload_n rfl rfl ?_
      refine l_gfi rfl rfl rfl (layCl (by omega)) rfl ?_
      have w12 : -2147483648 ≤ (Xi T1 (276 + cl) 5) ∧ (Xi T1 (276 + cl) 5) ≤ 2147483647 := Xi_rgI
      have hl5 : Xi T1 (276 + cl) 5 = Xi S (276 + cl) 5 := FR_cl hFT1 rfl hcl
      refine l_icmp_ge rfl rfl (by unfold rg; omega) (by unfold rg; omega) (fun w13 => ?_) (fun w14 => ?_)
      · refine l_aload_n rfl rfl ?_
        refine l_bipush rfl rfl ?_
        refine l_callV rfl rfl rfl (t_tu_write__w hHT1 10 ⟨by omega, by omega⟩ _) ?_
        rintro _ T3 ⟨hHT3, w16, rfl, e110⟩
        have hFT3 : FR md_tu_sayText__w S T3 := FR.tr hFT1 w16 rfl
        show Rl _ _ _ _ _ [] _ _
        refine l_return rfl rfl ?_
        exact ⟨hHT3, hFT3, rfl, (TX_FR hFT3 rfl hX), (wl_s (sy_e y11 (by omega)) e110)⟩
      · refine l_aload_n rfl rfl ?_
        refine l_gfr rfl rfl rfl rfl rfl (hHT1.r 900 1 20 rfl) ?_
        have w17 := txe (S := T1) (TXT_eq (hFT1 20 1 rfl).2.2 hx) (by omega)
        have w17b : tp (txr T1) := w17.2
        refine l_gfr rfl rfl rfl rfl rfl w17.1 ?_
        refine l_aload_n rfl rfl ?_
        refine l_gfi rfl rfl rfl (layCl (by omega)) rfl ?_
        have w18 : -2147483648 ≤ (Xi T1 (276 + cl) 4) ∧ (Xi T1 (276 + cl) 4) ≤ 2147483647 := Xi_rgI
        have hl4 : Xi T1 (276 + cl) 4 = Xi S (276 + cl) 4 := FR_cl hFT1 rfl hcl
        refine l_iload rfl rfl ?_
        refine l_iadd rfl ?_
        refine l_baload (n := 5000) rfl (tp_sv (by assumption)) (lay_tp (by assumption)) (by decide) (by omega) (by omega) (by unfold rg; omega) ?_
        have w19 : -128 ≤ (Xi T1 (txr T1) ((((Xi T1 (276 + cl) 4) + v5)).toNat)) ∧ (Xi T1 (txr T1) ((((Xi T1 (276 + cl) 4) + v5)).toNat)) ≤ 127 := tpc hHT1 (by assumption)
        have hbt : Xi T1 (txr T1) ((Xi T1 (276 + cl) 4) + v5).toNat = Xi S (txr S) (Xi S (276 + cl) 4 + v5).toNat := by rw [← hl4]; exact txb hFT1 rfl rfl (by assumption)
        refine l_istore rfl rfl rfl ?_
        refine l_iload rfl rfl ?_
        refine l_bipush rfl rfl ?_
        refine l_icmp_ne rfl rfl (by unfold rg; omega) (by unfold rg; omega) (fun w20 => ?_) (fun w21 => ?_)
        · refine l_iload rfl rfl ?_
          refine l_bipush rfl rfl ?_
          refine l_icmp_ne rfl rfl (by unfold rg; omega) (by unfold rg; omega) (fun w22 => ?_) (fun w23 => ?_)
          · refine l_iload rfl rfl ?_
            refine l_if_ne rfl rfl (by unfold rg; omega) (fun w24 => ?_) (fun w25 => ?_)
            · exact Rl_weak (C101 T1 hHT1 hFT1 (v3) (v4) (v5) (by omega) (by omega) (by omega) (by first | (have e := nbr_y (S := S) (t := txr S) (v := Xi S (276 + cl) 4) (i := v5) (by omega) (by omega); omega) | (have e := nbr_n (S := S) (t := txr S) (v := Xi S (276 + cl) 4) (i := v5) (by omega) (by omega); omega)) (by omega) (by first | exact Y65 | exact Y98 | exact sy_c y11 (by omega) (by omega) | exact sy_n y11 (by omega) (by omega) (by omega) (by omega)) (by omega)) (And.intro rfl (And.intro rfl (And.intro rfl (And.intro rfl (And.intro rfl (And.intro rfl (True.intro)))))))
            · refine l_aload_n rfl rfl ?_
              refine l_iload rfl rfl ?_
              refine l_callV rfl rfl rfl (t_tu_write__w hHT1 (Xi T1 (txr T1) ((((Xi T1 (276 + cl) 4) + v5)).toNat)) ⟨by omega, by omega⟩ _) ?_
              rintro _ T4 ⟨hHT4, w27, rfl, e98⟩
              have hFT4 : FR md_tu_sayText__w S T4 := FR.tr hFT1 w27 rfl
              show Rl _ _ _ _ _ [] _ _
              have Y98 : SYI S T4 cl noun (v5 + 1) v3 v4 := sy_w y11 (by omega) (by omega) (by omega) (by omega) (by omega) e98
              exact Rl_weak (C101 T4 hHT4 hFT4 (v3) (v4) (v5) (by omega) (by omega) (by omega) (by first | (have e := nbr_y (S := S) (t := txr S) (v := Xi S (276 + cl) 4) (i := v5) (by omega) (by omega); omega) | (have e := nbr_n (S := S) (t := txr S) (v := Xi S (276 + cl) 4) (i := v5) (by omega) (by omega); omega)) (by omega) (by first | exact Y65 | exact Y98 | exact sy_c y11 (by omega) (by omega) | exact sy_n y11 (by omega) (by omega) (by omega) (by omega)) (by omega)) (And.intro rfl (And.intro rfl (And.intro rfl (And.intro rfl (And.intro rfl (And.intro rfl (True.intro)))))))
          · refine l_iconst rfl ?_
            refine l_istore rfl rfl rfl ?_
            refine l_goto rfl rfl ?_
            exact Rl_weak (C101 T1 hHT1 hFT1 (v3) (0) (v5) (by omega) (by omega) (by omega) (by first | (have e := nbr_y (S := S) (t := txr S) (v := Xi S (276 + cl) 4) (i := v5) (by omega) (by omega); omega) | (have e := nbr_n (S := S) (t := txr S) (v := Xi S (276 + cl) 4) (i := v5) (by omega) (by omega); omega)) (by omega) (by first | exact Y65 | exact Y98 | exact sy_c y11 (by omega) (by omega) | exact sy_n y11 (by omega) (by omega) (by omega) (by omega)) (by omega)) (And.intro rfl (And.intro rfl (And.intro rfl (And.intro rfl (And.intro rfl (And.intro rfl (True.intro)))))))
        · refine l_aload_n rfl rfl ?_
          refine l_aload_n rfl rfl ?_
          refine l_gfr rfl rfl rfl rfl rfl (hHT1.r 900 2 246 rfl) ?_
          refine l_iload_n rfl rfl ?_
          have w28 : 0 ≤ Xi T1 246 8 ∧ Xi T1 246 8 ≤ 1666 := hHT1.c _ _
          refine l_callV rfl rfl rfl (t_bo_thingOfInsert hHT1 v3 ⟨by omega, by omega⟩ _) ?_
          rintro _ _ ⟨rfl, z29, rfl, w29, q50, n50⟩
          show Rl _ _ _ _ _ [iv z29, .ref 900] _ _
          have t50 : z29 = thI S v3 := thi_i (XW.f hFT1 rfl) q50 n50
          refine l_iload_n rfl rfl ?_
          refine l_callS rfl rfl (by decide) rfl (t_tu_whoIs hHT1 z29 noun ⟨by omega, by omega⟩ ⟨by omega, by omega⟩ _) ?_
          rintro _ _ ⟨rfl, z30, rfl, w30, p54⟩
          show Rl _ _ _ _ _ [iv z30, .ref 900] _ _
          have t54 : z30 = whU noun (thI S v3) := by rw [← t50]; exact (whU_i p54).symm
          refine l_aload_n rfl rfl ?_
          refine l_gfr rfl rfl rfl rfl rfl (hHT1.r 900 2 246 rfl) ?_
          refine l_iload_n rfl rfl ?_
          refine l_callV rfl rfl rfl (t_bo_propertyOfInsert hHT1 v3 ⟨by omega, by omega⟩ _) ?_
          rintro _ _ ⟨rfl, z32, rfl, w32, q62, n62⟩
          show Rl _ _ _ _ _ [iv z32, iv z30, .ref 900] _ _
          have hho := ins_ho (i := v5) hFT1 rfl rfl hI hnx (by omega) (by omega) (by omega) (by assumption) (by assumption) (by assumption) (by assumption)
          have t62 : z32 = ppI S v3 := ppi_i (XW.f hFT1 rfl) q62 n62
          refine l_callV rfl rfl rfl (t_tu_writeInsert__w hHT1 z30 z32 ⟨by omega, by omega⟩ ⟨by omega, by omega⟩ (by first | assumption | exact TX_FR hFT1 rfl hX) (by first | assumption) (CW_FR hFT1 rfl rfl cw) _) ?_
          rintro _ T5 ⟨hHT5, w34, rfl, e65⟩
          have hFT5 : FR md_tu_sayText__w S T5 := FR.tr hFT1 w34 rfl
          show Rl _ _ _ _ _ [] _ _
          have Y65 : SYI S T5 cl noun (v5 + 1) (v3 + 1) 1 := sy_i y11 (by omega) (by omega) (by rw [e65, insL_x (XW.f hFT1 rfl) hH hX (fun q => ⟨hho q, by omega⟩) (by omega), t54, t62])
          refine l_iinc rfl rfl rfl rfl ?_
          refine l_iconst rfl ?_
          refine l_istore rfl rfl rfl ?_
          refine l_goto rfl rfl ?_
          exact Rl_weak (C101 T5 hHT5 hFT5 ((v3 + 1)) (1) (v5) (by omega) (by omega) (by omega) (by first | (have e := nbr_y (S := S) (t := txr S) (v := Xi S (276 + cl) 4) (i := v5) (by omega) (by omega); omega) | (have e := nbr_n (S := S) (t := txr S) (v := Xi S (276 + cl) 4) (i := v5) (by omega) (by omega); omega)) (by omega) (by first | exact Y65 | exact Y98 | exact sy_c y11 (by omega) (by omega) | exact sy_n y11 (by omega) (by omega) (by omega) (by omega)) (by omega)) (And.intro rfl (And.intro rfl (And.intro rfl (And.intro rfl (And.intro rfl (And.intro rfl (True.intro)))))))
  refine l_aload_n rfl rfl ?_
  refine l_gfi rfl rfl rfl (layCl (by omega)) rfl ?_
  have w35 : -1 ≤ (Xi S (276 + cl) 3) ∧ (Xi S (276 + cl) 3) ≤ 1666 := clc3 hH (by omega)
  refine l_istore_n rfl rfl rfl ?_
  refine l_iconst rfl ?_
  refine l_istore rfl rfl rfl ?_
  refine l_iconst rfl ?_
  refine l_istore rfl rfl rfl ?_
  exact Rl_weak (C11 _ S hH hF ((Xi S (276 + cl) 3)) (0) (0) (by omega) (by omega) (by omega) (by first | exact hnx1 | exact (show _ = _ + nbr S _ _ 0 by unfold nbr; omega) | (have e := nbr_y (S := S) (t := txr S) (v := Xi S (276 + cl) 4) (i := v5) (by omega) (by omega); omega) | (have e := nbr_n (S := S) (t := txr S) (v := Xi S (276 + cl) 4) (i := v5) (by omega) (by omega); omega)) (by omega) (by first | exact y101 | exact sy_0) rfl) (And.intro rfl (And.intro rfl (And.intro rfl (And.intro rfl (And.intro rfl (And.intro rfl (True.intro)))))))
end
