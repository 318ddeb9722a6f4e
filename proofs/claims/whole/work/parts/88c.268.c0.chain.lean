section
/-! class and reference: 20, chains of pairs -/
def GX (ok : sS → Int × Int → Prop) (st : sS → Int × Int → sS) : List (Int × Int) → sS → sS → Prop
  | [], U, V => V = U
  | p :: l, U, V => ok U p ∧ GX ok st l (st U p) V
def BX (ok : sS → Int × Int → Prop) (st : sS → Int × Int → sS) : List (Int × Int) → sS → Prop
  | [], _ => False
  | p :: l, U => ¬ ok U p ∨ BX ok st l (st U p)
theorem gx_app {ok : sS → Int × Int → Prop} {st : sS → Int × Int → sS} : ∀ {l m : List (Int × Int)} {U W V : sS}, GX ok st l U W → GX ok st m W V → GX ok st (l ++ m) U V
  | [], _, _, _, _, h, k => by
    have h : _ = _ := h
    subst h
    exact k
  | _ :: _, _, _, _, _, h, k => ⟨h.1, gx_app h.2 k⟩
theorem bx_a1 {ok : sS → Int × Int → Prop} {st : sS → Int × Int → sS} : ∀ {l m : List (Int × Int)} {U : sS}, BX ok st l U → BX ok st (l ++ m) U
  | [], _, _, h => h.elim
  | _ :: _, _, _, h => h.elim Or.inl (fun q => Or.inr (bx_a1 q))
theorem bx_a2 {ok : sS → Int × Int → Prop} {st : sS → Int × Int → sS} : ∀ {l m : List (Int × Int)} {U W : sS}, GX ok st l U W → BX ok st m W → BX ok st (l ++ m) U
  | [], _, _, _, h, k => by
    have h : _ = _ := h
    subst h
    exact k
  | _ :: _, _, _, _, h, k => Or.inr (bx_a2 h.2 k)
theorem gx_bx {ok : sS → Int × Int → Prop} {st : sS → Int × Int → sS} : ∀ {l : List (Int × Int)} {U V : sS}, GX ok st l U V → BX ok st l U → False
  | [], _, _, _, k => k
  | _ :: _, _, _, h, k => k.elim (fun q => q h.1) (fun q => gx_bx h.2 q)
theorem gx_u {ok : sS → Int × Int → Prop} {st : sS → Int × Int → sS} : ∀ {l : List (Int × Int)} {U V W : sS}, GX ok st l U V → GX ok st l U W → V = W
  | [], _, _, _, h, k => by
    have h : _ = _ := h
    have k : _ = _ := k
    rw [h, k]
  | _ :: _, _, _, _, h, k => gx_u h.2 k.2
def oC (r : Int) (W : sS) (p : Int × Int) : Prop := okT W r p.1 p.2
def sC (r : Int) (W : sS) (p : Int × Int) : sS := uI W (189 + r.toNat) p.1.toNat (Int32.ofInt (iorF (Xi W (189 + r.toNat) p.1.toNat) (ishlF 1 p.2)))
def oD (r : Int) (D : sS) (p : Int × Int) : Prop := okW D r p.1 p.2
def sDx (r : Int) (D : sS) (p : Int × Int) : sS := uI D 940 (576 * r + 24 * p.1 + p.2).toNat (Int32.ofInt 1)
theorem gx_r {R : Nat} : ∀ (l : List (Int × Int)) {W D : sS}, RLW W D → TX3 W → (R : Int) < Xi W 5 6 → (∀ p ∈ l, (0 ≤ p.1 ∧ p.1 < Xi W 5 2) ∧ 0 ≤ p.2 ∧ p.2 < Xi W 5 2) → (∀ V, GX (oC R) (sC R) l W V → ∃ E, GX (oD R) (sDx R) l D E ∧ RLW V E ∧ TX3 V) ∧ (BX (oC R) (sC R) l W → BX (oD R) (sDx R) l D)
  | [], W, D, h, t3, _, _ => ⟨fun V e => ⟨D, rfl, by have e : V = W := e; rw [e]; exact ⟨h, t3⟩⟩, fun q => q⟩
  | p :: l, W, D, h, t3, hR, hp => by
    obtain ⟨⟨a0, a1⟩, b0, b1⟩ := hp p (List.mem_cons_self ..)
    obtain ⟨A, eA⟩ := Int.eq_ofNat_of_zero_le a0
    obtain ⟨B, eB⟩ := Int.eq_ofNat_of_zero_le b0
    have k := okW_r h hR (A := A) (B := B) (by omega) (by omega)
    rw [← eA, ← eB] at k
    by_cases q : okT W R p.1 p.2
    · have q2 := k.1 q
      have t : TRT W (sC R W p) 1 R p.1 p.2 := trt_y q rfl
      have u : TRR D (sDx R D p) 1 R p.1 p.2 := ⟨fun _ => ⟨rfl, rfl⟩, fun y => absurd q2 y⟩
      rw [eA, eB] at t u
      obtain ⟨_, _, g⟩ := trt_r h t3 hR (by omega) (by omega) t u
      obtain ⟨g1, g2, g3, g4⟩ := g rfl
      have c : ∀ j, Xi (sC R W p) 5 j = Xi W 5 j := (g3.kep rfl : KEP [(5, 6)] [] W (sC R W p)).x 5 rfl
      obtain ⟨i1, i2⟩ := gx_r l g1 g2 (by rw [c]; exact hR) (fun x hx => by rw [c]; exact hp x (List.mem_cons_of_mem _ hx))
      refine ⟨fun V y => ?_, fun y => ?_⟩
      · obtain ⟨E, e1, e2⟩ := i1 V y.2
        exact ⟨E, ⟨q2, e1⟩, e2⟩
      · rcases y with y | y
        · exact absurd q y
        · exact Or.inr (i2 y)
    · exact ⟨fun V y => absurd y.1 q, fun _ => Or.inl (fun y => q (k.2 y))⟩
theorem trt_1 {W V : sS} {r a b : Int} (h : TRT W V 1 r a b) : oC r W (a, b) ∧ V = sC r W (a, b) := by
  by_cases q : okT W r a b
  · exact ⟨q, h.2.1 q⟩
  · exact absurd (h.2.2 q).1 (by decide)
theorem trr_1 {W V : sS} {r a b : Int} (h : TRR W V 1 r a b) : oD r W (a, b) ∧ V = sDx r W (a, b) := by
  by_cases q : okW W r a b
  · exact ⟨q, (h.1 q).2⟩
  · exact absurd (h.2 q).1 (by decide)
/-- the pairs, as the class goes through them -/
def iC (S : sS) (a v : Int) : Nat → List (Int × Int)
  | 0 => []
  | n + 1 => iC S a v n ++ (if pTo S v (v + 1 + n) = -1 then [] else [(a, pTo S v (v + 1 + n))])
def oCl (S : sS) (v l : Int) : Nat → List (Int × Int)
  | 0 => []
  | n + 1 => oCl S v l n ++ (if pFo S v n = -1 then [] else iC S (pFo S v n) v (l - v - 1).toNat)
/-- the pairs, as the reference goes through them -/
def iD (S : sS) (a : Int) : Nat → List (Int × Int)
  | 0 => []
  | n + 1 => iD S a n ++ [(a, Xi S 989 n)]
def oDl (S : sS) (m : Nat) : Nat → List (Int × Int)
  | 0 => []
  | n + 1 => oDl S m n ++ iD S (Xi S 988 n) m
theorem ic_p {S : sS} {a v : Int} {n : Nat} : ∀ m : Nat, ∃ t, iC S a v (n + m) = iC S a v n ++ t
  | 0 => ⟨[], by simp⟩
  | m + 1 => by
    obtain ⟨t, e⟩ := ic_p (S := S) (a := a) (v := v) (n := n) m
    exact ⟨_, by rw [← Nat.add_assoc, iC, e, List.append_assoc]⟩
theorem ocl_p {S : sS} {v l : Int} {n : Nat} : ∀ m : Nat, ∃ t, oCl S v l (n + m) = oCl S v l n ++ t
  | 0 => ⟨[], by simp⟩
  | m + 1 => by
    obtain ⟨t, e⟩ := ocl_p (S := S) (v := v) (l := l) (n := n) m
    exact ⟨_, by rw [← Nat.add_assoc, oCl, e, List.append_assoc]⟩
theorem id_p {S : sS} {a : Int} {n : Nat} : ∀ m : Nat, ∃ t, iD S a (n + m) = iD S a n ++ t
  | 0 => ⟨[], by simp⟩
  | m + 1 => by
    obtain ⟨t, e⟩ := id_p (S := S) (a := a) (n := n) m
    exact ⟨_, by rw [← Nat.add_assoc, iD, e, List.append_assoc]⟩
theorem odl_p {S : sS} {k n : Nat} : ∀ m : Nat, ∃ t, oDl S k (n + m) = oDl S k n ++ t
  | 0 => ⟨[], by simp⟩
  | m + 1 => by
    obtain ⟨t, e⟩ := odl_p (S := S) (k := k) (n := n) m
    exact ⟨_, by rw [← Nat.add_assoc, oDl, e, List.append_assoc]⟩
theorem rin_g {S : sS} {r a v : Int} : ∀ {n : Nat} {U V : sS}, RIN S r a v n U V → GX (oC r) (sC r) (iC S a v n) U V
  | 0, _, _, h => h
  | n + 1, U, V, ⟨W, h1, h2⟩ => by
    rw [iC]
    refine gx_app (rin_g h1) ?_
    rcases h2 with ⟨q, e⟩ | ⟨q, t⟩
    · rw [if_pos q]; exact e
    · rw [if_neg q]
      obtain ⟨a1, a2⟩ := trt_1 t
      exact ⟨a1, a2⟩
theorem rou_g {S : sS} {r v l : Int} : ∀ {n : Nat} {U V : sS}, ROU S r v l n U V → GX (oC r) (sC r) (oCl S v l n) U V
  | 0, _, _, h => h
  | n + 1, U, V, ⟨W, h1, h2⟩ => by
    rw [oCl]
    refine gx_app (rou_g h1) ?_
    rcases h2 with ⟨q, e⟩ | ⟨q, t⟩
    · rw [if_pos q]; exact e
    · rw [if_neg q]; exact rin_g t
theorem din_g {S : sS} {r a : Int} : ∀ {n : Nat} {U V : sS}, DIN S r a n U V → GX (oD r) (sDx r) (iD S a n) U V
  | 0, _, _, h => h
  | n + 1, U, V, ⟨W, h1, h2⟩ => by
    rw [iD]
    obtain ⟨a1, a2⟩ := trr_1 h2
    exact gx_app (din_g h1) ⟨a1, a2⟩
theorem dou_g {S : sS} {r m : Int} : ∀ {n : Nat} {U V : sS}, DOU S r m n U V → GX (oD r) (sDx r) (oDl S m.toNat n) U V
  | 0, _, _, h => h
  | n + 1, U, V, ⟨W, h1, h2⟩ => by
    rw [oDl]
    exact gx_app (dou_g h1) (din_g h2)
theorem ral_b {S S1 : sS} {z r v l : Int} (h : RAL S S1 z r v l) (hz : z = 0) : BX (oC r) (sC r) (oCl S v l v.toNat) S := by
  obtain ⟨i, j, U, W, hi, hj, h1, h2, h3, h4, h5⟩ := h.2 hz
  obtain ⟨t, e⟩ := ocl_p (S := S) (v := v) (l := l) (n := i + 1) (v.toNat - (i + 1))
  rw [show i + 1 + (v.toNat - (i + 1)) = v.toNat by omega] at e
  rw [e]
  apply bx_a1
  rw [oCl, if_neg h2]
  refine bx_a2 (rou_g h1) ?_
  obtain ⟨t2, e2⟩ := ic_p (S := S) (a := pFo S v i) (v := v) (n := j + 1) ((l - v - 1).toNat - (j + 1))
  rw [show j + 1 + ((l - v - 1).toNat - (j + 1)) = (l - v - 1).toNat by omega] at e2
  rw [e2]
  apply bx_a1
  rw [iC, if_neg h4]
  exact bx_a2 (rin_g h3) (Or.inl h5)
theorem dfa_b {S T : sS} {f : Int} (h : DFA S f T) : BX (oD (Xi S 904 147)) (sDx (Xi S 904 147)) (oDl S (Xi S 904 146).toNat (Xi S 904 144).toNat) S := by
  obtain ⟨i, j, U, W, hi, hj, h1, h2, h3, _⟩ := h
  obtain ⟨t, e⟩ := odl_p (S := S) (k := (Xi S 904 146).toNat) (n := i + 1) ((Xi S 904 144).toNat - (i + 1))
  rw [show i + 1 + ((Xi S 904 144).toNat - (i + 1)) = (Xi S 904 144).toNat by omega] at e
  rw [e]
  apply bx_a1
  rw [oDl]
  refine bx_a2 (dou_g h1) ?_
  obtain ⟨t2, e2⟩ := id_p (S := S) (a := Xi S 988 i) (n := j + 1) ((Xi S 904 146).toNat - (j + 1))
  rw [show j + 1 + ((Xi S 904 146).toNat - (j + 1)) = (Xi S 904 146).toNat by omega] at e2
  rw [e2]
  apply bx_a1
  rw [iD]
  exact bx_a2 (din_g h2) (Or.inl h3)
/-- a name begins at row a + m of what begins at a -/
def bgw (T : Int → Int) (a : Int) (m : Nat) : Prop := T (a + m) = 100 ∧ (m = 0 ∨ T (a + m - 1) ≠ 100)
theorem bc_s {T : Int → Int} {a : Int} {m : Nat} (h : bgw T a m) : bc7 T a (m + 1) = bc7 T a m + 1 := by
  unfold bgw at h
  rw [bc7, if_pos h]
theorem bc_s0 {T : Int → Int} {a : Int} {m : Nat} (h : ¬ bgw T a m) : bc7 T a (m + 1) = bc7 T a m := by
  unfold bgw at h
  rw [bc7, if_neg h]; rfl
theorem bc_le {T : Int → Int} {a : Int} {n : Nat} : ∀ m : Nat, bc7 T a n ≤ bc7 T a (n + m)
  | 0 => Nat.le_refl _
  | m + 1 => by
    have ih := bc_le (T := T) (a := a) (n := n) m
    rw [← Nat.add_assoc, bc7]
    exact Nat.le_trans ih (Nat.le_add_right _ _)
theorem bc_lt {T : Int → Int} {a : Int} {m n : Nat} (h : bgw T a m) (hm : m < n) : bc7 T a m < bc7 T a n := by
  have t := bc_le (T := T) (a := a) (n := m + 1) (n - (m + 1))
  rw [show m + 1 + (n - (m + 1)) = n by omega, bc_s h] at t
  omega
theorem ic_id {U T : sS} {a v : Int} {L : Nat} (h : ∀ m : Nat, m < L → (bgw (ty7 U) (v + 1) m → pTo U v (v + 1 + m) = Xi T 989 (bc7 (ty7 U) (v + 1) m) ∧ pTo U v (v + 1 + m) ≠ -1) ∧ (¬ bgw (ty7 U) (v + 1) m → pTo U v (v + 1 + m) = -1)) : ∀ n : Nat, n ≤ L → iC U a v n = iD T a (bc7 (ty7 U) (v + 1) n)
  | 0, _ => rfl
  | n + 1, hn => by
    obtain ⟨h1, h2⟩ := h n (by omega)
    have ih := ic_id (a := a) h n (by omega)
    rw [iC, ih]
    by_cases q : bgw (ty7 U) (v + 1) n
    · obtain ⟨e, ne⟩ := h1 q
      rw [if_neg ne, bc_s q, iD, e]
    · rw [if_pos (h2 q), bc_s0 q, List.append_nil]
theorem ocl_odl {U T : sS} {v l : Int} {k : Nat} (hi : ∀ a : Int, iC U a v (l - v - 1).toNat = iD T a k) {L : Nat} (h : ∀ m : Nat, m < L → (bgw (ty7 U) 0 m → pFo U v m = Xi T 988 (bc7 (ty7 U) 0 m) ∧ pFo U v m ≠ -1) ∧ (¬ bgw (ty7 U) 0 m → pFo U v m = -1)) : ∀ n : Nat, n ≤ L → oCl U v l n = oDl T k (bc7 (ty7 U) 0 n)
  | 0, _ => rfl
  | n + 1, hn => by
    obtain ⟨h1, h2⟩ := h n (by omega)
    have ih := ocl_odl hi h n (by omega)
    rw [oCl, ih]
    by_cases q : bgw (ty7 U) 0 n
    · obtain ⟨e, ne⟩ := h1 q
      rw [if_neg ne, bc_s q, oDl, hi, e]
    · rw [if_pos (h2 q), bc_s0 q, List.append_nil]
/-- a name begins there, in the class's words -/
theorem bgw_r {U : sS} {a : Int} {m : Nat} (h0 : 0 ≤ a) : bgr U (a + m) a = 1 ↔ bgw (ty7 U) a m := by
  unfold bgr bgw
  have tt : ∀ r : Int, 0 ≤ r → r < Xi U 876 7 → ty7 U r = Xi U 877 r.toNat := fun r x y => by unfold ty7; rw [if_pos ⟨x, y⟩]
  constructor
  · intro q
    by_cases w : a ≤ a + (m : Int) ∧ a + (m : Int) < Xi U 876 7 ∧ Xi U 877 (a + (m : Int)).toNat = 100 ∧ (a + (m : Int) = a ∨ Xi U 877 (a + (m : Int) - 1).toNat ≠ 100)
    · obtain ⟨w1, w2, w3, w4⟩ := w
      refine ⟨by rw [tt _ (by omega) w2]; exact w3, ?_⟩
      rcases w4 with w4 | w4
      · exact Or.inl (by omega)
      · by_cases m0 : m = 0
        · exact Or.inl m0
        · exact Or.inr (by rw [tt _ (by omega) (by omega)]; exact w4)
    · rw [if_neg w] at q; exact absurd q (by decide)
  · rintro ⟨q1, q2⟩
    obtain ⟨x, y, z⟩ := ty_100 q1
    rw [if_pos]
    refine ⟨by omega, y, z, ?_⟩
    rcases q2 with q2 | q2
    · exact Or.inl (by omega)
    · by_cases m0 : m = 0
      · exact Or.inl (by omega)
      · exact Or.inr (by rw [← tt _ (by omega) (by omega)]; exact q2)
theorem iol_b {S : sS} {b k : Int} (hC : CEN S) (w : WHC S) : ∀ (n : Nat) (i : Int) (c l : List Int), ioL S b k n i c = some l → (∀ x ∈ c, 0 ≤ x ∧ x < Xi S 5 2) → ∀ x ∈ l, 0 ≤ x ∧ x < Xi S 5 2
  | 0, i, c, l, h, _ => by cases h
  | n + 1, i, c, l, h, hc => by
    rw [ioL] at h
    split at h
    · injection h with h; subst h; intro x hx; cases hx
    split at h
    · injection h with h; subst h; intro x hx; cases hx
    rename_i q0 q1
    have ob : 0 ≤ fnd S 2 (bA (ty7 S) i) (ruF S (bA (ty7 S) i) b) ∧ fnd S 2 (bA (ty7 S) i) (ruF S (bA (ty7 S) i) b) < Xi S 5 2 := fnd_wc (by omega) hC w (fun y => q1 (Or.inl y))
    have hc2 : ∀ x ∈ c ++ [fnd S 2 (bA (ty7 S) i) (ruF S (bA (ty7 S) i) b)], 0 ≤ x ∧ x < Xi S 5 2 := fun x hx => by
      rcases List.mem_append.mp hx with y | y
      · exact hc x y
      · rw [List.mem_singleton.mp y]; exact ob
    split at h
    · injection h with h; subst h; exact hc2
    split at h
    · split at h
      · exact iol_b hC w n _ _ l h hc2
      · exact iol_b hC w n _ _ l h hc2
    split at h
    · exact iol_b hC w n _ _ l h hc2
    · injection h with h; subst h; intro x hx; cases hx
/-- a list of objects in both: how many, and what each name means -/
theorem lst_r {U S T : sS} {f : Nat} {a b k : Int} {c : Nat} (h : RLW U S) (sc : SCX U S f) (tb : ∀ i : Int, 0 ≤ ty7 U i ∧ ty7 U i ≤ 108) (ha : 0 ≤ a ∧ a ≤ b) (hb : b ≤ Xi U 876 7) (hd : ty7 U b ≠ 16) (ne : lV S (f + a) (f + b) k ≠ []) (ar : ARL T c (lV S (f + a) (f + b) k)) : (lV S (f + a) (f + b) k).length = bc7 (ty7 U) a (b - a).toNat ∧ ∀ m : Nat, (m : Int) < b - a → bgw (ty7 U) a m → fnd U 2 (a + m) (ruF U (a + m) b) = Xi T c (bc7 (ty7 U) a m) ∧ (0 ≤ Xi T c (bc7 (ty7 U) a m) ∧ Xi T c (bc7 (ty7 U) a m) < Xi U 5 2) := by
  have n5 := sc.2
  obtain ⟨l, el⟩ := lw_end (S := S) (b := f + b) (k := k) 6000 (f + a) [] (by omega)
  have e := iol_r (k := k) h sc tb hb hd 6000 a [] ha.1 ha.2
  rw [el] at e
  have v := lw_V el (by omega)
  rw [← v] at ne ar ⊢
  obtain ⟨c1, _, c3⟩ := iol_c (a := a) hd 6000 a [] l e ne (Int.le_refl _) ha.2 (Or.inl rfl) (by rw [show (a - a).toNat = 0 by omega]; rfl)
  refine ⟨c1, fun m hm q => ?_⟩
  have lt := bc_lt q (show m < (b - a).toNat by omega)
  rw [← c1] at lt
  have g := c3 (a + m) (by omega) (by omega) q.1 (by
    rcases q.2 with y | y
    · exact Or.inl (by omega)
    · exact Or.inr y)
  rw [show (a + (m : Int) - a).toNat = m by omega] at g
  have gd : l.getD (bc7 (ty7 U) a m) 0 = l[bc7 (ty7 U) a m] := by simp [List.getD, List.getElem?_eq_getElem lt]
  rw [ar _ lt, ← gd, g]
  refine ⟨rfl, ?_⟩
  rw [← g, gd]
  exact iol_b h.1.2.2.1 h.2.1 6000 a [] l e (fun x hx => by cases hx) _ (List.getElem_mem lt)

/-! class and reference: 20 keeps the relation -/
theorem re_ru {U : sS} (hd : ty7 U (Xi U 876 7 - 1) = 103) (j : Int) : re7 (ty7 U) j = ruF U j (Xi U 876 7 - 1) := by
  refine (ren_re (S := U) (lim := Xi U 876 7 - 1) (fun r hr e => ?_) 5131 j).symm
  apply Classical.byContradiction
  intro q
  have e2 : (r : Int) = Xi U 876 7 - 1 := by omega
  unfold ty7 at hd
  rw [← e2, if_pos ⟨by omega, hr⟩, show ((r : Nat) : Int).toNat = r by omega] at hd
  omega
theorem icl_m {S : sS} {a v : Int} : ∀ {n : Nat} {p : Int × Int}, p ∈ iC S a v n → p.1 = a ∧ p.2 ≠ -1 ∧ ∃ j : Int, p.2 = pTo S v j
  | n + 1, p, h => by
    rw [iC] at h
    rcases List.mem_append.mp h with y | y
    · exact icl_m y
    · by_cases q : pTo S v (v + 1 + n) = -1
      · rw [if_pos q] at y; cases y
      · rw [if_neg q] at y
        have y := List.mem_singleton.mp y
        subst y
        exact ⟨rfl, q, _, rfl⟩
theorem ocl_m {S : sS} {v l : Int} : ∀ {n : Nat} {p : Int × Int}, p ∈ oCl S v l n → (p.1 ≠ -1 ∧ ∃ i : Int, p.1 = pFo S v i) ∧ p.2 ≠ -1 ∧ ∃ j : Int, p.2 = pTo S v j
  | n + 1, p, h => by
    rw [oCl] at h
    rcases List.mem_append.mp h with y | y
    · exact ocl_m y
    · by_cases q : pFo S v n = -1
      · rw [if_pos q] at y; cases y
      · rw [if_neg q] at y
        obtain ⟨a, b, c⟩ := icl_m y
        exact ⟨⟨by rw [a]; exact q, _, a⟩, b, c⟩
theorem whc_2 {U : sS} (hC : CEN U) (w : WHC U) {a b : Int} (h : fnd U 2 a b ≠ -1) : 0 ≤ fnd U 2 a b ∧ fnd U 2 a b < Xi U 5 2 := fnd_wc (by omega) hC w h
theorem st_20 {U U1 S T S1 : sS} {f : Nat} {z : Int} (h : RLW U S) (t3 : TX3 U) (sc : SCX U S f) (tb : ∀ i : Int, 0 ≤ ty7 U i ∧ ty7 U i ≤ 108) (h7 : 1 ≤ Xi U 876 7) (hd : ty7 U (Xi U 876 7 - 1) = 103) (f0 : Xi U 876 8 = 0) (zf : z = 0 → Xi U1 876 8 ≠ 0) (tc : TLQ U U1 z) (rc : ∃ P : sS, FR lA S P ∧ (Xi P 904 106 = 0 ∧ Xi P 904 108 = 0) ∧ RSY P T f (f + (Xi U 876 7 - 1))) (Fa : FR md_mo_asked__20f S T) (rd : (NT3 T).1 = 0 → DSY T S1 f) : STP U1 T S1 := by
  obtain ⟨P, FP, ⟨P0, _⟩, n3, sa⟩ := rc
  have hP : RLW U P := h.k t3 KEP.rf (FP.kep rfl)
  have sP := sc.kS (FP.kep rfl : KEP [(907, 911)] [] S P)
  have hT : RLW U T := h.k t3 KEP.rf (Fa.kep rfl)
  have sT := sc.kS (Fa.kep rfl : KEP [(907, 911)] [] S T)
  have n16 : ty7 U (Xi U 876 7 - 1) ≠ 16 := by omega
  generalize el : Xi U 876 7 - 1 = l at *
  have l0 : 0 ≤ l := by omega
  have ll : l ≤ Xi U 876 7 := by omega
  rw [show ((f : Int) + l - f).toNat = l.toNat by omega] at n3
  rw [show (f : Int) + l - f = l by omega] at sa
  have cn := cn_r hP sP tb ll n16 l.toNat (by omega)
  have psr := ps_r hP sP tb ll n16 l.toNat (by omega)
  have pl : pc7 U 0 = Xi P 908 f := by
    have t := (sP.1 0 (by omega)).1
    rw [Nat.add_zero] at t
    rw [t]
    unfold pc7
    rw [if_pos ⟨by omega, by omega⟩]; rfl
  rw [show ((f : Int)).toNat = f by omega, ← pl, ← cn] at n3
  have n0 : (NT3 P).1 = 0 := P0
  unfold TLQ at tc
  rw [el] at tc
  by_cases q : cnL U l l.toNat = 1
  · -- one reading
    rw [q, if_pos (by decide), if_pos (by decide)] at n3
    have x0 : (NT3 T).1 = 0 := by rw [n3]; exact n0
    have dsy := rd x0
    obtain ⟨p, r, x, W, ⟨p0, p1, r0, r5⟩, ⟨_, e1, e2, e3⟩, ra, fin⟩ := tc.2 q
    obtain ⟨ps1, ps2, ps3⟩ := psr.2.2 q
    obtain ⟨_, _, _, s4⟩ := sa
    rw [← cn, q] at s4
    obtain ⟨_, _, s5, a1, a2, a3, a4, a5⟩ := s4 (by decide)
    rw [← ps1, ← e1] at s5 a1 a2 a3 a4 a5
    obtain ⟨pN, rfl⟩ := Int.eq_ofNat_of_zero_le p0
    rw [show ((pN : Nat) : Int).toNat = pN by omega] at s5 a1 a2 a3 a4 a5 e2 e3
    obtain ⟨v1, v2, v3, v4, v5⟩ := s5
    have vbe := vb_r (n := pN) hP.1 sP tb (by omega)
    have t100 : ty7 U pN = 100 := by
      apply Classical.byContradiction
      intro y
      apply e2.1
      unfold vbL
      rw [if_neg y]
    have vb : 0 ≤ vbL U pN ∧ vbL U pN < Xi U 5 7 := by
      have e21 := e2.1
      unfold vbL at e21 ⊢
      rw [if_pos t100] at e21 ⊢
      by_cases a : fl7 (ty7 U) (pN + 1) ≠ 0
      · rw [if_pos a] at e21 ⊢; exact fnd_wc (by omega) h.1.2.2.1 h.2.1 e21
      · rw [if_neg a] at e21 ⊢; exact fnd_wc (by omega) h.1.2.2.1 h.2.1 e21
    have va := hP.2.2.2.2.2.2.2.2.1.1 (vbL U pN).toNat (by omega)
    have er : rA P f pN = r := by unfold rA; rw [← vbe, ← va.1, e3]
    rw [er] at a3
    have rlt : r < Xi U 5 6 := by rw [e3]; exact va.2.2
    obtain ⟨R, rfl⟩ := Int.eq_ofNat_of_zero_le r0
    unfold lA_ at v4 a1 a4
    unfold lB_ at v5 a2 a5
    have i1 := lst_r (a := 0) (b := pN) hP sP tb ⟨by omega, by omega⟩ (by omega) (by omega) (by rw [show (f : Int) + 0 = f by omega]; exact v4) (by rw [show (f : Int) + 0 = f by omega]; exact a4)
    have i2 := lst_r (a := pN + 1) (b := l) hP sP tb ⟨by omega, by omega⟩ ll n16 (by rw [show (f : Int) + ((pN : Int) + 1) = f + pN + 1 by omega]; exact v5) (by rw [show (f : Int) + ((pN : Int) + 1) = f + pN + 1 by omega]; exact a5)
    rw [show (f : Int) + 0 = f by omega] at i1
    rw [show (f : Int) + ((pN : Int) + 1) = f + pN + 1 by omega] at i2
    obtain ⟨i1, i1b⟩ := i1
    obtain ⟨i2, i2b⟩ := i2
    rw [i1] at a1
    rw [i2] at a2
    rw [show (pN : Int) - 0 = pN by omega, show ((pN : Nat) : Int).toNat = pN by omega] at a1
    have li : ∀ a : Int, iC U a pN (l - pN - 1).toNat = iD T a (Xi T 904 146).toNat := fun a => by
      rw [a2, show (l - ((pN : Int) + 1)).toNat = (l - pN - 1).toNat by omega]
      refine ic_id (L := (l - pN - 1).toNat) (fun m hm => ⟨fun y => ?_, fun y => ?_⟩) _ (Nat.le_refl _)
      · obtain ⟨c1, c2, c3⟩ := i2b m (by omega) y
        have e : pTo U pN (pN + 1 + m) = Xi T 989 (bc7 (ty7 U) (pN + 1) m) := by
          unfold pTo
          rw [if_pos ((bgw_r (by omega)).2 y), re_ru (by rw [el]; exact hd), el]
          exact c1
        exact ⟨e, by rw [e]; omega⟩
      · unfold pTo
        rw [if_neg (fun w => y ((bgw_r (by omega)).1 w))]
    have lo : oCl U pN l pN = oDl T (Xi T 904 146).toNat (Xi T 904 144).toNat := by
      rw [a1]
      refine ocl_odl li (L := pN) (fun m hm => ⟨fun y => ?_, fun y => ?_⟩) _ (Nat.le_refl _)
      · obtain ⟨c1, c2, c3⟩ := i1b m (by omega) y
        have e : pFo U pN m = Xi T 988 (bc7 (ty7 U) 0 m) := by
          have b := (bgw_r (U := U) (Int.le_refl 0)).2 y
          rw [show (0 : Int) + m = m by omega] at b c1
          unfold pFo
          rw [if_pos b]
          exact c1
        exact ⟨e, by rw [e]; omega⟩
      · unfold pFo
        rw [if_neg (fun w => y ((bgw_r (Int.le_refl 0)).1 (by rw [show (0 : Int) + m = m by omega]; exact w)))]
    have wC : ∀ {a b : Int}, fnd U 2 a b ≠ -1 → 0 ≤ fnd U 2 a b ∧ fnd U 2 a b < Xi U 5 2 := fun q => whc_2 h.1.2.2.1 h.2.1 q
    have g := gx_r (R := R) (oCl U pN l pN) hT t3 rlt (fun x hx => by
      obtain ⟨⟨y1, i, y2⟩, y3, j, y4⟩ := ocl_m hx
      refine ⟨?_, ?_⟩
      · rw [y2] at y1 ⊢
        unfold pFo at y1 ⊢
        by_cases w : bgr U i 0 = 1
        · rw [if_pos w] at y1 ⊢; exact wC y1
        · rw [if_neg w] at y1; exact absurd rfl y1
      · rw [y4] at y3 ⊢
        unfold pTo at y3 ⊢
        by_cases w : bgr U j (pN + 1) = 1
        · rw [if_pos w] at y3 ⊢; exact wC y3
        · rw [if_neg w] at y3; exact absurd rfl y3)
    obtain ⟨d1, d2⟩ := dsy
    rw [a3] at d1
    rcases fin with ⟨x1, z1, eU⟩ | ⟨x1, z1, ft⟩
    · have gc := rou_g (ra.1 x1)
      rw [show ((pN : Nat) : Int).toNat = pN by omega] at gc
      obtain ⟨E, g1, g2, g3⟩ := g.1 _ gc
      have nf : Xi S1 904 106 = 0 := by
        apply Classical.byContradiction
        intro w
        have b := dfa_b (d2 w)
        rw [a3, ← lo] at b
        exact gx_bx g1 b
      have gd := dou_g (d1 nf)
      rw [← lo] at gd
      have eE := gx_u g1 gd
      refine Or.inr ⟨?_, x0, nf, by rw [← eE, eU]; exact g2⟩
      have fr : ∀ (l : List (Int × Int)) (A B : sS), GX (oC R) (sC R) l A B → Xi B 876 8 = Xi A 876 8 := fun l => by
        induction l with
        | nil => intro A B w; have w : B = A := w; rw [w]
        | cons a l ih => intro A B w; rw [ih _ _ w.2]; unfold sC; exact Xi_ne (by omega)
      rw [eU, fr _ _ _ gc]; exact f0
    · refine Or.inl ⟨zf z1, Or.inr ⟨x0, ?_⟩⟩
      have bc := ral_b ra x1
      rw [show ((pN : Nat) : Int).toNat = pN by omega] at bc
      have bd := g.2 bc
      have nf : Xi S1 904 106 ≠ 0 := fun w => by
        have gd := dou_g (d1 w)
        rw [← lo] at gd
        exact gx_bx gd bd
      obtain ⟨_, _, _, _, _, _, _, _, _, nb⟩ := d2 nf
      have pT : Xi T 908 f = Xi P 908 f := by
        have t1 := (sP.1 0 (by omega)).1
        have t2 := (sT.1 0 (by omega)).1
        rw [Nat.add_zero] at t1 t2
        rw [t1, t2]
      rw [show ((f : Int)).toNat = f by omega, pT, ← pl] at nb
      rw [ft.1, ft.2]
      exact nb
  · obtain ⟨z0, ft⟩ := tc.1 q
    refine Or.inl ⟨zf z0, Or.inl ?_⟩
    rw [n3, ft.1, ft.2]
    by_cases w : cnL U l l.toNat = 0
    · rw [w, if_pos (by decide), if_neg (by decide), if_pos rfl]
      exact ntb_1 n0
    · have := psr.1
      rw [if_neg (by omega), if_pos (by omega), if_neg w]
      exact ntb_1 n0
end
section
/-! 1: commands that were told before stay -/
def KOC (S T : sS) : Prop := ∀ j : Nat, (j : Int) < Xi S 882 3 → (Xi T 883 j = Xi S 883 j ∧ Xi T 884 j = Xi S 884 j ∧ Xi T 885 j = Xi S 885 j ∧ Xi T 886 j = Xi S 886 j) ∧ ∀ i : Nat, i < 8 → Xj T 887 (8 * j + i) = Xj S 887 (8 * j + i)
theorem koc_0 {S : sS} : KOC S S := fun _ _ => ⟨⟨rfl, rfl, rfl, rfl⟩, fun _ _ => rfl⟩
theorem koc_I {S T : sS} {k n : Nat} {v : Int32} (h : KOC S T) (hn : Xi S 882 3 ≤ (n : Int) ∨ ¬ (883 ≤ k ∧ k ≤ 886)) : KOC S (uI T k n v) := fun j hj => by
  obtain ⟨⟨a, b, c, d⟩, e⟩ := h j hj
  refine ⟨⟨?_, ?_, ?_, ?_⟩, fun i hi => (Xj_I).trans (e i hi)⟩
  · rw [Xi_ne (by omega)]; exact a
  · rw [Xi_ne (by omega)]; exact b
  · rw [Xi_ne (by omega)]; exact c
  · rw [Xi_ne (by omega)]; exact d
theorem koc_J {S T : sS} {n : Nat} {v : Int64} (h : KOC S T) (hn : Xi S 882 3 * 8 ≤ (n : Int)) : KOC S (uJ T 887 n v) := fun j hj => by
  obtain ⟨⟨a, b, c, d⟩, e⟩ := h j hj
  exact ⟨⟨a, b, c, d⟩, fun i hi => by rw [Xj_ne (by omega)]; exact e i hi⟩
theorem koc_F {l : List rec} {S T V : sS} (F : FR l T V) (e : kdis l [(883, 888)] = true) (h : KOC S T) : KOC S V := fun j hj => by
  have x := F.smk e
  obtain ⟨⟨a, b, c, d⟩, g⟩ := h j hj
  exact ⟨⟨(x.x 883 rfl j).trans a, (x.x 884 rfl j).trans b, (x.x 885 rfl j).trans c, (x.x 886 rfl j).trans d⟩, fun i hi => (SMK_j x 887 rfl _).trans (g i hi)⟩
theorem koc_s {S T V : sS} {z a : Int} (h : KOC S T) (c : Xi T 882 3 = Xi S 882 3) (s : SUI T V z a) : KOC S V := by
  by_cases q : Xi T 19 a.toNat = -1 ∨ Xi T 885 (Xi T 882 3).toNat = -1
  · rw [(s.1 q).2.2]; exact h
  · have n0 : Xi S 882 3 ≤ ((Xi T 882 3).toNat : Int) := by omega
    by_cases w : Xi T 19 a.toNat = -2
    · rw [(s.2.1 w (fun y => q (Or.inr y))).2.2]; exact koc_I h (Or.inl n0)
    · rw [(s.2.2 (fun y => q (Or.inl y)) w (fun y => q (Or.inr y))).2.2]; exact koc_I h (Or.inl n0)

def md_co_takeText__k : List rec := [(882, 883, 10, 11), (884, 885, 0, 100000), (885, 886, 0, 100000), (886, 887, 0, 100000), (887, 888, 0, 100000), (888, 889, 0, 100000)]
abbrev Q_co_takeText__k (S : sS) (t : Nat) (from_ : Int) (to : Int) : pst := fun r S1 => RI S1 ∧ FR md_co_takeText__k S S1 ∧ (∃ z : Int, r = some (iv z) ∧ (0 ≤ z ∧ z ≤ 1) ∧ (TXO S S1 t from_ to z) ∧ (KOC S S1))
set_option maxRecDepth 100000 in
theorem t_co_takeText__k {S : sS} (hH : RI S) (t : Nat) (from_ : Int) (to : Int) (ht : tp t) (hfrom_ : 0 ≤ from_ ∧ from_ ≤ 5000) (hto : 0 ≤ to ∧ to ≤ 5000) (hby : BYT S t) (hft : from_ ≤ to) (hc : 0 ≤ Xi S 882 3 ∧ Xi S 882 3 < 20) (d : Nat) : Mp lay0 (d + 4) m_co_takeText [.ref 882, .ref t, iv from_, iv to] S (Q_co_takeText__k S t from_ to) := by
  refine Mp_R rfl rfl (fun fu => ?_)
  have hF : FR md_co_takeText__k S S := FR.rf
  have w1 : -2147483648 ≤ Xi S 882 3 ∧ Xi S 882 3 ≤ 2147483647 := Xi_rgI
  have C26 : ∀ (n26 : Nat) (_ : n26 ≤ fu) (T1 : sS) (_ : RI T1) (_ : FR md_co_takeText__k S T1) (v4 : Int) (v5 : Int), (0 ≤ v4 ∧ v4 ≤ 8) → (-1 ≤ v5 ∧ v5 ≤ 5000) → (from_ ≤ v5 ∧ v5 ≤ to) → (0 ≤ v4 ∧ v4 ≤ 8) → (Hid (TLC S T1 t to from_ v5 v4)) → (Hid (KOC S T1)) → Pl n26 lay0 (d + 3) m_co_takeText 26 [(0, .ref 882), (1, .ref t), (3, iv to), (4, iv v4), (5, iv v5)] [] T1 (Q_co_takeText__k S t from_ to) := by
    intro n26
    induction n26 with
    | zero => intros; exact Pl_0
    | succ n26 ih26 =>
      intro hm26 T1 hHT1 hFT1 v4 v5 w2 w3 w4 w5 L26 M26
      have w6 : Xi T1 882 3 = Xi S 882 3 := hFT1.x _ _ rfl
      have w7 : -2147483648 ≤ Xi T1 882 3 ∧ Xi T1 882 3 ≤ 2147483647 := Xi_rgI
      refine ys_iload rfl rfl ?_
      refine y_iload_n rfl rfl ?_
      refine y_icmp_ge rfl rfl (by unfold rg; omega) (by unfold rg; omega) (fun w8 => ?_) (fun w9 => ?_)
      · refine y_aload_n rfl rfl ?_
        refine y_gfr rfl rfl rfl rfl rfl (hHT1.r 882 5 884 rfl) ?_
        refine y_aload_n rfl rfl ?_
        refine y_gfi rfl rfl rfl rfl rfl ?_
        refine y_iload rfl rfl ?_
        refine y_iastoreP (n := 20) rfl rfl (by unfold rg; omega) (fun w10 w11 => ?_)
        obtain ⟨U2, eU2⟩ : ∃ T : sS, T = uI T1 884 (((Xi T1 882 3)).toNat) (Int32.ofInt v4) := ⟨_, rfl⟩
        rw [← eU2]
        have hHU2 : RI U2 := by rw [eU2]; exact RI_w hHT1
        have hFU2 : FR md_co_takeText__k S U2 := by rw [eU2]; exact FR.wI hFT1 (mdf_i (r := (884, 885, 0, 100000)) (List.mem_of_getElem? (i := 1) rfl) (inR_i (by omega) (by omega) (by omega) (by omega)))
        have w12 : Xi U2 884 (((Xi T1 882 3)).toNat) = v4 := by rw [eU2]; exact Xi_same (by unfold rg; omega)
        have e209 := eU2
        rw [show Xi T1 882 3 = Xi S 882 3 by omega] at e209
        have k209_ : KOC S U2 := by rw [e209]; exact koc_I M26.o (Or.inl (by omega))
        refine y_iload rfl rfl ?_
        refine y_if_le rfl rfl (by unfold rg; omega) (fun w13 => ?_) (fun w14 => ?_)
        · refine y_iconst rfl ?_
          refine y_ireturn rfl rfl ?_
          have w15 : Xi U2 882 3 = Xi T1 882 3 := (show Xi U2 882 3 = Xi T1 882 3 from by rw [eU2]; exact Xi_ne (by omega))
          exact ⟨hHU2, hFU2, _, rfl, ⟨by omega, by omega⟩, (by first | (have u := K117; exact tlc_wx L26.o (by omega) (by omega) (by omega) (by omega) e117 (by omega)) | (have u := K105; exact tlc_gx L26.o (by omega) (by omega) (by omega) (by omega) (by omega) o105.1 (by omega)) | (have u := e209; exact tlc_z L26.o (by omega) (by omega) (by omega) e209 (by unfold rg; omega) (by omega)) | exact tlc_x L26.o (by omega) (by omega) (by omega) (by omega)), (by first | exact k209_ | exact k105_ | exact k144_ | exact M26.o)⟩
        · refine y_iconst rfl ?_
          refine y_goto rfl rfl ?_
          refine y_ireturn rfl rfl ?_
          have w16 : Xi U2 882 3 = Xi T1 882 3 := (show Xi U2 882 3 = Xi T1 882 3 from by rw [eU2]; exact Xi_ne (by omega))
          exact ⟨hHU2, hFU2, _, rfl, ⟨by omega, by omega⟩, (by first | (have u := K117; exact tlc_wx L26.o (by omega) (by omega) (by omega) (by omega) e117 (by omega)) | (have u := K105; exact tlc_gx L26.o (by omega) (by omega) (by omega) (by omega) (by omega) o105.1 (by omega)) | (have u := e209; exact tlc_z L26.o (by omega) (by omega) (by omega) e209 (by unfold rg; omega) (by omega)) | exact tlc_x L26.o (by omega) (by omega) (by omega) (by omega)), (by first | exact k209_ | exact k105_ | exact k144_ | exact M26.o)⟩
      · refine y_aload_n rfl rfl ?_
        refine y_iload rfl rfl ?_
        refine y_baloadP (n := 5000) rfl (tp_sv (by assumption)) (lay_tp (by assumption)) (by decide) (by unfold rg; omega) (fun w17 w18 => ?_)
        have w19 : -2147483648 ≤ (Xi T1 t ((v5).toNat)) ∧ (Xi T1 t ((v5).toNat)) ≤ 2147483647 := Xi_rgI
        have y35 : Xi T1 t (v5).toNat = Xi S t (v5).toNat := congrFun (tp_F hFT1 rfl ht) _
        refine y_bipush rfl rfl ?_
        refine y_icmp_ne rfl rfl (by unfold rg; omega) (by unfold rg; omega) (fun w20 => ?_) (fun w21 => ?_)
        · refine y_iload rfl rfl ?_
          refine y_bipush rfl rfl ?_
          refine y_icmp_eq rfl rfl (by unfold rg; omega) (by unfold rg; omega) (fun w22 => ?_) (fun w23 => ?_)
          · refine y_iconst rfl ?_
            refine y_ireturn rfl rfl ?_
            exact ⟨hHT1, hFT1, _, rfl, ⟨by omega, by omega⟩, (by first | (have u := K117; exact tlc_wx L26.o (by omega) (by omega) (by omega) (by omega) e117 (by omega)) | (have u := K105; exact tlc_gx L26.o (by omega) (by omega) (by omega) (by omega) (by omega) o105.1 (by omega)) | (have u := e209; exact tlc_z L26.o (by omega) (by omega) (by omega) e209 (by unfold rg; omega) (by omega)) | exact tlc_x L26.o (by omega) (by omega) (by omega) (by omega)), (by first | exact k209_ | exact k105_ | exact k144_ | exact M26.o)⟩
          · refine y_aload_n rfl rfl ?_
            refine y_iload rfl rfl ?_
            refine y_baloadP (n := 5000) rfl (tp_sv (by assumption)) (lay_tp (by assumption)) (by decide) (by unfold rg; omega) (fun w24 w25 => ?_)
            refine y_bipush rfl rfl ?_
            refine y_icmp_ne rfl rfl (by unfold rg; omega) (by unfold rg; omega) (fun w26 => ?_) (fun w27 => ?_)
            · refine y_aload_n rfl rfl ?_
              refine y_iload rfl rfl ?_
              refine y_baloadP (n := 5000) rfl (tp_sv (by assumption)) (lay_tp (by assumption)) (by decide) (by unfold rg; omega) (fun w28 w29 => ?_)
              refine y_bipush rfl rfl ?_
              refine y_icmp_ne rfl rfl (by unfold rg; omega) (by unfold rg; omega) (fun w30 => ?_) (fun w31 => ?_)
              · refine y_aload_n rfl rfl ?_
                refine y_iload rfl rfl ?_
                refine y_iload_n rfl rfl ?_
                refine y_callS rfl rfl (by decide) rfl (t_co_wordEnd__p hHT1 t v5 to ht ⟨by omega, by omega⟩ ⟨by omega, by omega⟩ (BYT_F hFT1 rfl ht hby) _) ?_
                rintro _ _ ⟨rfl, z33, rfl, w33, v117, w32⟩
                show Pl _ _ _ _ _ _ [iv z33] _ _
                have K117 : True := trivial
                have e117 : z33 = we7 (Xi S t) to v5 := by have u := v117; rw [tp_F hFT1 rfl ht] at u; exact u
                clear v117
                refine y_istore rfl rfl rfl ?_
                refine y_aload_n rfl rfl ?_
                refine y_gfr rfl rfl rfl rfl rfl (hHT1.r 882 8 887 rfl) ?_
                refine y_aload_n rfl rfl ?_
                refine y_gfi rfl rfl rfl rfl rfl ?_
                refine y_bipush rfl rfl ?_
                refine y_imul rfl ?_
                refine y_iload rfl rfl ?_
                refine y_iadd rfl ?_
                refine y_aload_n rfl rfl ?_
                refine y_iload rfl rfl ?_
                refine y_iload rfl rfl ?_
                refine y_callS rfl rfl (by decide) rfl (t_co_codeOf__p hHT1 t v5 z33 ht ⟨by omega, by omega⟩ ⟨by omega, by omega⟩ (BYT_F hFT1 rfl ht hby) (by first | assumption | omega) _) ?_
                rintro _ _ ⟨rfl, z34, rfl, v141, g141⟩
                show Pl _ _ _ _ _ _ [jw z34, iv (((Xi T1 882 3) * 8) + v4), .ref 887] _ _
                have c141 : z33 - v5 ≤ 12 → z34 = c27 (Xi S t) (v5).toNat (z33 - v5).toNat := fun q => by have u := v141; rw [tp_F hFT1 rfl ht] at u; exact c27_d q u
                clear v141
                refine y_lastoreP (n := 160) rfl rfl (by unfold rg; omega) (fun w35 w36 => ?_)
                obtain ⟨U3, eU3⟩ : ∃ T : sS, T = uJ T1 887 (((((Xi T1 882 3) * 8) + v4)).toNat) (Int64.ofInt z34) := ⟨_, rfl⟩
                rw [← eU3]
                have hHU3 : RI U3 := by rw [eU3]; exact RI_J hHT1
                have hFU3 : FR md_co_takeText__k S U3 := by rw [eU3]; exact FR.wJ hFT1 (mdf_i (r := (887, 888, 0, 100000)) (List.mem_of_getElem? (i := 4) rfl) (inR_i (by omega) (by omega) (by omega) (by omega)))
                have e144 := eU3
                rw [show Xi T1 882 3 = Xi S 882 3 by omega] at e144
                have k144_ : KOC S U3 := by rw [e144]; exact koc_J M26.o (by omega)
                refine y_iload rfl rfl ?_
                refine y_iload rfl rfl ?_
                refine y_icmp_le rfl rfl (by unfold rg; omega) (by unfold rg; omega) (fun w37 => ?_) (fun w38 => ?_)
                · refine y_iconst rfl ?_
                  refine y_istore rfl rfl rfl ?_
                  refine y_iload rfl rfl ?_
                  refine y_iconst rfl ?_
                  refine y_icmp_eq rfl rfl (by unfold rg; omega) (by unfold rg; omega) (fun w39 => ?_) (fun w40 => absurd w40 (by omega))
                  · refine y_iconst rfl ?_
                    refine y_ireturn rfl rfl ?_
                    have w41 : Xi U3 882 3 = Xi T1 882 3 := (show Xi U3 882 3 = Xi T1 882 3 from by rw [eU3]; rfl)
                    exact ⟨hHU3, hFU3, _, rfl, ⟨by omega, by omega⟩, (by first | (have u := K117; exact tlc_wx L26.o (by omega) (by omega) (by omega) (by omega) e117 (by omega)) | (have u := K105; exact tlc_gx L26.o (by omega) (by omega) (by omega) (by omega) (by omega) o105.1 (by omega)) | (have u := e209; exact tlc_z L26.o (by omega) (by omega) (by omega) e209 (by unfold rg; omega) (by omega)) | exact tlc_x L26.o (by omega) (by omega) (by omega) (by omega)), (by first | exact k209_ | exact k105_ | exact k144_ | exact M26.o)⟩
                · refine y_iload rfl rfl ?_
                  refine y_iload rfl rfl ?_
                  refine y_isub rfl ?_
                  refine y_bipush rfl rfl ?_
                  refine y_icmp_gt rfl rfl (by unfold rg; omega) (by unfold rg; omega) (fun w42 => ?_) (fun w43 => ?_)
                  · refine y_iconst rfl ?_
                    refine y_istore rfl rfl rfl ?_
                    refine y_iload rfl rfl ?_
                    refine y_iconst rfl ?_
                    refine y_icmp_eq rfl rfl (by unfold rg; omega) (by unfold rg; omega) (fun w44 => ?_) (fun w45 => absurd w45 (by omega))
                    · refine y_iconst rfl ?_
                      refine y_ireturn rfl rfl ?_
                      have w46 : Xi U3 882 3 = Xi T1 882 3 := (show Xi U3 882 3 = Xi T1 882 3 from by rw [eU3]; rfl)
                      exact ⟨hHU3, hFU3, _, rfl, ⟨by omega, by omega⟩, (by first | (have u := K117; exact tlc_wx L26.o (by omega) (by omega) (by omega) (by omega) e117 (by omega)) | (have u := K105; exact tlc_gx L26.o (by omega) (by omega) (by omega) (by omega) (by omega) o105.1 (by omega)) | (have u := e209; exact tlc_z L26.o (by omega) (by omega) (by omega) e209 (by unfold rg; omega) (by omega)) | exact tlc_x L26.o (by omega) (by omega) (by omega) (by omega)), (by first | exact k209_ | exact k105_ | exact k144_ | exact M26.o)⟩
                  · refine y_iload rfl rfl ?_
                    refine y_goto rfl rfl ?_
                    refine y_istore rfl rfl rfl ?_
                    refine y_iload rfl rfl ?_
                    refine y_iconst rfl ?_
                    refine y_icmp_eq rfl rfl (by unfold rg; omega) (by unfold rg; omega) (fun w47 => ?_) (fun w48 => ?_)
                    · refine y_iconst rfl ?_
                      refine y_ireturn rfl rfl ?_
                      have w49 : Xi U3 882 3 = Xi T1 882 3 := (show Xi U3 882 3 = Xi T1 882 3 from by rw [eU3]; rfl)
                      exact ⟨hHU3, hFU3, _, rfl, ⟨by omega, by omega⟩, (by first | (have u := K117; exact tlc_wx L26.o (by omega) (by omega) (by omega) (by omega) e117 (by omega)) | (have u := K105; exact tlc_gx L26.o (by omega) (by omega) (by omega) (by omega) (by omega) o105.1 (by omega)) | (have u := e209; exact tlc_z L26.o (by omega) (by omega) (by omega) e209 (by unfold rg; omega) (by omega)) | exact tlc_x L26.o (by omega) (by omega) (by omega) (by omega)), (by first | exact k209_ | exact k105_ | exact k144_ | exact M26.o)⟩
                    · refine y_iload rfl rfl ?_
                      refine y_iload_n rfl rfl ?_
                      refine y_icmp_ge rfl rfl (by unfold rg; omega) (by unfold rg; omega) (fun w50 => ?_) (fun w51 => ?_)
                      · refine y_iinc rfl rfl rfl rfl ?_
                        have L193 : Hid (TLC S U3 t to from_ z33 (v4 + 1)) := by first | (have u := K117; exact tlc_w L26.o (by omega) (by omega) (by omega) (by omega) e117 (by omega) (c141 (by omega)) g141 e144) | exact tlc_g L26.o (by omega) (by omega) (by omega) (by omega) (by unfold rg; omega) (by omega) e97 F105 rfl o105 (by omega)
                        refine y_goto rfl rfl ?_
                        have w52 : Xi U3 882 3 = Xi T1 882 3 := (show Xi U3 882 3 = Xi T1 882 3 from by rw [eU3]; rfl)
                        exact Pl_weak (ih26 (by omega) U3 hHU3 hFU3 ((v4 + 1)) (z33) (by omega) (by omega) (by omega) (by omega) (by first | exact L193 | exact L41 | exact tlc_0 A24.1 A24.2) (by first | exact k105_ | exact k144_ | exact A25 | exact M26)) (by omega) (And.intro rfl (And.intro rfl (And.intro rfl (And.intro rfl (And.intro rfl (True.intro))))))
                      · refine y_aload_n rfl rfl ?_
                        refine y_iload rfl rfl ?_
                        refine y_baloadP (n := 5000) rfl (tp_sv (by assumption)) (lay_tp (by assumption)) (by decide) (by unfold rg; omega) (fun w53 w54 => ?_)
                        have w55 : -2147483648 ≤ (Xi U3 t ((z33).toNat)) ∧ (Xi U3 t ((z33).toNat)) ≤ 2147483647 := Xi_rgI
                        have y185 : Xi U3 t (z33).toNat = Xi S t (z33).toNat := congrFun (tp_F hFU3 rfl ht) _
                        refine y_bipush rfl rfl ?_
                        refine y_icmp_eq rfl rfl (by unfold rg; omega) (by unfold rg; omega) (fun w56 => ?_) (fun w57 => ?_)
                        · refine y_iinc rfl rfl rfl rfl ?_
                          have L193 : Hid (TLC S U3 t to from_ z33 (v4 + 1)) := by first | (have u := K117; exact tlc_w L26.o (by omega) (by omega) (by omega) (by omega) e117 (by omega) (c141 (by omega)) g141 e144) | exact tlc_g L26.o (by omega) (by omega) (by omega) (by omega) (by unfold rg; omega) (by omega) e97 F105 rfl o105 (by omega)
                          refine y_goto rfl rfl ?_
                          have w58 : Xi U3 882 3 = Xi T1 882 3 := (show Xi U3 882 3 = Xi T1 882 3 from by rw [eU3]; rfl)
                          exact Pl_weak (ih26 (by omega) U3 hHU3 hFU3 ((v4 + 1)) (z33) (by omega) (by omega) (by omega) (by omega) (by first | exact L193 | exact L41 | exact tlc_0 A24.1 A24.2) (by first | exact k105_ | exact k144_ | exact A25 | exact M26)) (by omega) (And.intro rfl (And.intro rfl (And.intro rfl (And.intro rfl (And.intro rfl (True.intro))))))
                        · refine y_iconst rfl ?_
                          refine y_ireturn rfl rfl ?_
                          have w59 : Xi U3 882 3 = Xi T1 882 3 := (show Xi U3 882 3 = Xi T1 882 3 from by rw [eU3]; rfl)
                          exact ⟨hHU3, hFU3, _, rfl, ⟨by omega, by omega⟩, (by first | (have u := K117; exact tlc_wx L26.o (by omega) (by omega) (by omega) (by omega) e117 (by omega)) | (have u := K105; exact tlc_gx L26.o (by omega) (by omega) (by omega) (by omega) (by omega) o105.1 (by omega)) | (have u := e209; exact tlc_z L26.o (by omega) (by omega) (by omega) e209 (by unfold rg; omega) (by omega)) | exact tlc_x L26.o (by omega) (by omega) (by omega) (by omega)), (by first | exact k209_ | exact k105_ | exact k144_ | exact M26.o)⟩
              · refine y_aload_n rfl rfl ?_
                refine y_gfr rfl rfl rfl rfl rfl (hHT1.r 882 6 885 rfl) ?_
                refine y_aload_n rfl rfl ?_
                refine y_gfi rfl rfl rfl rfl rfl ?_
                refine y_iload rfl rfl ?_
                refine y_iastoreP (n := 20) rfl rfl (by unfold rg; omega) (fun w60 w61 => ?_)
                obtain ⟨U4, eU4⟩ : ∃ T : sS, T = uI T1 885 (((Xi T1 882 3)).toNat) (Int32.ofInt v4) := ⟨_, rfl⟩
                rw [← eU4]
                have hHU4 : RI U4 := by rw [eU4]; exact RI_w hHT1
                have hFU4 : FR md_co_takeText__k S U4 := by rw [eU4]; exact FR.wI hFT1 (mdf_i (r := (885, 886, 0, 100000)) (List.mem_of_getElem? (i := 2) rfl) (inR_i (by omega) (by omega) (by omega) (by omega)))
                have w62 : Xi U4 885 (((Xi T1 882 3)).toNat) = v4 := by rw [eU4]; exact Xi_same (by unfold rg; omega)
                have e97 := eU4
                rw [show Xi T1 882 3 = Xi S 882 3 by omega] at e97
                have k97_ : KOC S U4 := by rw [e97]; exact koc_I M26.o (Or.inl (by omega))
                refine y_aload_n rfl rfl ?_
                refine y_aload_n rfl rfl ?_
                refine y_iload rfl rfl ?_
                refine y_iconst rfl ?_
                refine y_iadd rfl ?_
                refine y_iload_n rfl rfl ?_
                have w63 : Xi U4 882 3 = Xi T1 882 3 := (show Xi U4 882 3 = Xi T1 882 3 from by rw [eU4]; exact Xi_ne (by omega))
                refine y_callV rfl rfl rfl (t_co_takeGap__p hHU4 t (v5 + 1) to ht ⟨by omega, by omega⟩ ⟨by omega, by omega⟩ (BYT_F hFU4 rfl ht hby) (by first | assumption | omega) _) ?_
                rintro _ T5 ⟨hHT5, w66, z65, rfl, w65, o105_, w64⟩
                have hFT5 : FR md_co_takeText__k S T5 := FR.tr hFU4 w66 rfl
                show Pl _ _ _ _ _ _ [iv z65] _ _
                have K105 : True := trivial
                have o105 := gpo_F hFU4 rfl rfl ht o105_
                clear o105_
                have F105 := (by assumption : FR md_co_takeGap__p U4 T5)
                have k105_ : KOC S T5 := koc_F F105 rfl k97_
                refine y_istore rfl rfl rfl ?_
                refine y_goto rfl rfl ?_
                refine y_iload rfl rfl ?_
                refine y_iconst rfl ?_
                refine y_icmp_eq rfl rfl (by unfold rg; omega) (by unfold rg; omega) (fun w67 => ?_) (fun w68 => ?_)
                · refine y_iconst rfl ?_
                  refine y_ireturn rfl rfl ?_
                  have w69 : Xi T5 882 3 = Xi T1 882 3 := (show Xi T5 882 3 = Xi U4 882 3 from w66.x _ _ rfl).trans ((show Xi U4 882 3 = Xi T1 882 3 from by rw [eU4]; exact Xi_ne (by omega)))
                  exact ⟨hHT5, hFT5, _, rfl, ⟨by omega, by omega⟩, (by first | (have u := K117; exact tlc_wx L26.o (by omega) (by omega) (by omega) (by omega) e117 (by omega)) | (have u := K105; exact tlc_gx L26.o (by omega) (by omega) (by omega) (by omega) (by omega) o105.1 (by omega)) | (have u := e209; exact tlc_z L26.o (by omega) (by omega) (by omega) e209 (by unfold rg; omega) (by omega)) | exact tlc_x L26.o (by omega) (by omega) (by omega) (by omega)), (by first | exact k209_ | exact k105_ | exact k144_ | exact M26.o)⟩
                · refine y_iload rfl rfl ?_
                  refine y_iload_n rfl rfl ?_
                  refine y_icmp_ge rfl rfl (by unfold rg; omega) (by unfold rg; omega) (fun w70 => ?_) (fun w71 => ?_)
                  · refine y_iinc rfl rfl rfl rfl ?_
                    have L193 : Hid (TLC S T5 t to from_ z65 (v4 + 1)) := by first | (have u := K117; exact tlc_w L26.o (by omega) (by omega) (by omega) (by omega) e117 (by omega) (c141 (by omega)) g141 e144) | exact tlc_g L26.o (by omega) (by omega) (by omega) (by omega) (by unfold rg; omega) (by omega) e97 F105 rfl o105 (by omega)
                    refine y_goto rfl rfl ?_
                    have w72 : Xi T5 882 3 = Xi T1 882 3 := (show Xi T5 882 3 = Xi U4 882 3 from w66.x _ _ rfl).trans ((show Xi U4 882 3 = Xi T1 882 3 from by rw [eU4]; exact Xi_ne (by omega)))
                    exact Pl_weak (ih26 (by omega) T5 hHT5 hFT5 ((v4 + 1)) (z65) (by omega) (by omega) (by omega) (by omega) (by first | exact L193 | exact L41 | exact tlc_0 A24.1 A24.2) (by first | exact k105_ | exact k144_ | exact A25 | exact M26)) (by omega) (And.intro rfl (And.intro rfl (And.intro rfl (And.intro rfl (And.intro rfl (True.intro))))))
                  · refine y_aload_n rfl rfl ?_
                    refine y_iload rfl rfl ?_
                    refine y_baloadP (n := 5000) rfl (tp_sv (by assumption)) (lay_tp (by assumption)) (by decide) (by unfold rg; omega) (fun w73 w74 => ?_)
                    have w75 : -2147483648 ≤ (Xi T5 t ((z65).toNat)) ∧ (Xi T5 t ((z65).toNat)) ≤ 2147483647 := Xi_rgI
                    have y185 : Xi T5 t (z65).toNat = Xi S t (z65).toNat := congrFun (tp_F hFT5 rfl ht) _
                    refine y_bipush rfl rfl ?_
                    refine y_icmp_eq rfl rfl (by unfold rg; omega) (by unfold rg; omega) (fun w76 => ?_) (fun w77 => ?_)
                    · refine y_iinc rfl rfl rfl rfl ?_
                      have L193 : Hid (TLC S T5 t to from_ z65 (v4 + 1)) := by first | (have u := K117; exact tlc_w L26.o (by omega) (by omega) (by omega) (by omega) e117 (by omega) (c141 (by omega)) g141 e144) | exact tlc_g L26.o (by omega) (by omega) (by omega) (by omega) (by unfold rg; omega) (by omega) e97 F105 rfl o105 (by omega)
                      refine y_goto rfl rfl ?_
                      have w78 : Xi T5 882 3 = Xi T1 882 3 := (show Xi T5 882 3 = Xi U4 882 3 from w66.x _ _ rfl).trans ((show Xi U4 882 3 = Xi T1 882 3 from by rw [eU4]; exact Xi_ne (by omega)))
                      exact Pl_weak (ih26 (by omega) T5 hHT5 hFT5 ((v4 + 1)) (z65) (by omega) (by omega) (by omega) (by omega) (by first | exact L193 | exact L41 | exact tlc_0 A24.1 A24.2) (by first | exact k105_ | exact k144_ | exact A25 | exact M26)) (by omega) (And.intro rfl (And.intro rfl (And.intro rfl (And.intro rfl (And.intro rfl (True.intro))))))
                    · refine y_iconst rfl ?_
                      refine y_ireturn rfl rfl ?_
                      have w79 : Xi T5 882 3 = Xi T1 882 3 := (show Xi T5 882 3 = Xi U4 882 3 from w66.x _ _ rfl).trans ((show Xi U4 882 3 = Xi T1 882 3 from by rw [eU4]; exact Xi_ne (by omega)))
                      exact ⟨hHT5, hFT5, _, rfl, ⟨by omega, by omega⟩, (by first | (have u := K117; exact tlc_wx L26.o (by omega) (by omega) (by omega) (by omega) e117 (by omega)) | (have u := K105; exact tlc_gx L26.o (by omega) (by omega) (by omega) (by omega) (by omega) o105.1 (by omega)) | (have u := e209; exact tlc_z L26.o (by omega) (by omega) (by omega) e209 (by unfold rg; omega) (by omega)) | exact tlc_x L26.o (by omega) (by omega) (by omega) (by omega)), (by first | exact k209_ | exact k105_ | exact k144_ | exact M26.o)⟩
            · refine y_aload_n rfl rfl ?_
              refine y_gfr rfl rfl rfl rfl rfl (hHT1.r 882 6 885 rfl) ?_
              refine y_aload_n rfl rfl ?_
              refine y_gfi rfl rfl rfl rfl rfl ?_
              refine y_ialoadP (n := 20) rfl rfl (by unfold rg; omega) (fun w80 w81 => ?_)
              have w82 : -2147483648 ≤ (Xi T1 885 (((Xi T1 882 3)).toNat)) ∧ (Xi T1 885 (((Xi T1 882 3)).toNat)) ≤ 2147483647 := Xi_rgI
              have n71 : Xi T1 882 3 = Xi S 882 3 := hFT1.x 882 3 rfl
              have g71 : Xi T1 885 (Xi S 882 3).toNat = (Xi T1 885 (((Xi T1 882 3)).toNat)) := by rw [n71]
              refine y_iconst rfl ?_
              refine y_icmp_eq rfl rfl (by unfold rg; omega) (by unfold rg; omega) (fun w83 => ?_) (fun w84 => ?_)
              · refine y_aload_n rfl rfl ?_
                refine y_iload rfl rfl ?_
                refine y_baloadP (n := 5000) rfl (tp_sv (by assumption)) (lay_tp (by assumption)) (by decide) (by unfold rg; omega) (fun w85 w86 => ?_)
                refine y_bipush rfl rfl ?_
                refine y_icmp_ne rfl rfl (by unfold rg; omega) (by unfold rg; omega) (fun w87 => ?_) (fun w88 => ?_)
                · refine y_aload_n rfl rfl ?_
                  refine y_iload rfl rfl ?_
                  refine y_iload_n rfl rfl ?_
                  refine y_callS rfl rfl (by decide) rfl (t_co_wordEnd__p hHT1 t v5 to ht ⟨by omega, by omega⟩ ⟨by omega, by omega⟩ (BYT_F hFT1 rfl ht hby) _) ?_
                  rintro _ _ ⟨rfl, z90, rfl, w90, v117, w89⟩
                  show Pl _ _ _ _ _ _ [iv z90] _ _
                  have K117 : True := trivial
                  have e117 : z90 = we7 (Xi S t) to v5 := by have u := v117; rw [tp_F hFT1 rfl ht] at u; exact u
                  clear v117
                  refine y_istore rfl rfl rfl ?_
                  refine y_aload_n rfl rfl ?_
                  refine y_gfr rfl rfl rfl rfl rfl (hHT1.r 882 8 887 rfl) ?_
                  refine y_aload_n rfl rfl ?_
                  refine y_gfi rfl rfl rfl rfl rfl ?_
                  refine y_bipush rfl rfl ?_
                  refine y_imul rfl ?_
                  refine y_iload rfl rfl ?_
                  refine y_iadd rfl ?_
                  refine y_aload_n rfl rfl ?_
                  refine y_iload rfl rfl ?_
                  refine y_iload rfl rfl ?_
                  refine y_callS rfl rfl (by decide) rfl (t_co_codeOf__p hHT1 t v5 z90 ht ⟨by omega, by omega⟩ ⟨by omega, by omega⟩ (BYT_F hFT1 rfl ht hby) (by first | assumption | omega) _) ?_
                  rintro _ _ ⟨rfl, z91, rfl, v141, g141⟩
                  show Pl _ _ _ _ _ _ [jw z91, iv (((Xi T1 882 3) * 8) + v4), .ref 887] _ _
                  have c141 : z90 - v5 ≤ 12 → z91 = c27 (Xi S t) (v5).toNat (z90 - v5).toNat := fun q => by have u := v141; rw [tp_F hFT1 rfl ht] at u; exact c27_d q u
                  clear v141
                  refine y_lastoreP (n := 160) rfl rfl (by unfold rg; omega) (fun w92 w93 => ?_)
                  obtain ⟨U6, eU6⟩ : ∃ T : sS, T = uJ T1 887 (((((Xi T1 882 3) * 8) + v4)).toNat) (Int64.ofInt z91) := ⟨_, rfl⟩
                  rw [← eU6]
                  have hHU6 : RI U6 := by rw [eU6]; exact RI_J hHT1
                  have hFU6 : FR md_co_takeText__k S U6 := by rw [eU6]; exact FR.wJ hFT1 (mdf_i (r := (887, 888, 0, 100000)) (List.mem_of_getElem? (i := 4) rfl) (inR_i (by omega) (by omega) (by omega) (by omega)))
                  have e144 := eU6
                  rw [show Xi T1 882 3 = Xi S 882 3 by omega] at e144
                  have k144_ : KOC S U6 := by rw [e144]; exact koc_J M26.o (by omega)
                  refine y_iload rfl rfl ?_
                  refine y_iload rfl rfl ?_
                  refine y_icmp_le rfl rfl (by unfold rg; omega) (by unfold rg; omega) (fun w94 => ?_) (fun w95 => ?_)
                  · refine y_iconst rfl ?_
                    refine y_istore rfl rfl rfl ?_
                    refine y_iload rfl rfl ?_
                    refine y_iconst rfl ?_
                    refine y_icmp_eq rfl rfl (by unfold rg; omega) (by unfold rg; omega) (fun w96 => ?_) (fun w97 => absurd w97 (by omega))
                    · refine y_iconst rfl ?_
                      refine y_ireturn rfl rfl ?_
                      have w98 : Xi U6 882 3 = Xi T1 882 3 := (show Xi U6 882 3 = Xi T1 882 3 from by rw [eU6]; rfl)
                      exact ⟨hHU6, hFU6, _, rfl, ⟨by omega, by omega⟩, (by first | (have u := K117; exact tlc_wx L26.o (by omega) (by omega) (by omega) (by omega) e117 (by omega)) | (have u := K105; exact tlc_gx L26.o (by omega) (by omega) (by omega) (by omega) (by omega) o105.1 (by omega)) | (have u := e209; exact tlc_z L26.o (by omega) (by omega) (by omega) e209 (by unfold rg; omega) (by omega)) | exact tlc_x L26.o (by omega) (by omega) (by omega) (by omega)), (by first | exact k209_ | exact k105_ | exact k144_ | exact M26.o)⟩
                  · refine y_iload rfl rfl ?_
                    refine y_iload rfl rfl ?_
                    refine y_isub rfl ?_
                    refine y_bipush rfl rfl ?_
                    refine y_icmp_gt rfl rfl (by unfold rg; omega) (by unfold rg; omega) (fun w99 => ?_) (fun w100 => ?_)
                    · refine y_iconst rfl ?_
                      refine y_istore rfl rfl rfl ?_
                      refine y_iload rfl rfl ?_
                      refine y_iconst rfl ?_
                      refine y_icmp_eq rfl rfl (by unfold rg; omega) (by unfold rg; omega) (fun w101 => ?_) (fun w102 => absurd w102 (by omega))
                      · refine y_iconst rfl ?_
                        refine y_ireturn rfl rfl ?_
                        have w103 : Xi U6 882 3 = Xi T1 882 3 := (show Xi U6 882 3 = Xi T1 882 3 from by rw [eU6]; rfl)
                        exact ⟨hHU6, hFU6, _, rfl, ⟨by omega, by omega⟩, (by first | (have u := K117; exact tlc_wx L26.o (by omega) (by omega) (by omega) (by omega) e117 (by omega)) | (have u := K105; exact tlc_gx L26.o (by omega) (by omega) (by omega) (by omega) (by omega) o105.1 (by omega)) | (have u := e209; exact tlc_z L26.o (by omega) (by omega) (by omega) e209 (by unfold rg; omega) (by omega)) | exact tlc_x L26.o (by omega) (by omega) (by omega) (by omega)), (by first | exact k209_ | exact k105_ | exact k144_ | exact M26.o)⟩
                    · refine y_iload rfl rfl ?_
                      refine y_goto rfl rfl ?_
                      refine y_istore rfl rfl rfl ?_
                      refine y_iload rfl rfl ?_
                      refine y_iconst rfl ?_
                      refine y_icmp_eq rfl rfl (by unfold rg; omega) (by unfold rg; omega) (fun w104 => ?_) (fun w105 => ?_)
                      · refine y_iconst rfl ?_
                        refine y_ireturn rfl rfl ?_
                        have w106 : Xi U6 882 3 = Xi T1 882 3 := (show Xi U6 882 3 = Xi T1 882 3 from by rw [eU6]; rfl)
                        exact ⟨hHU6, hFU6, _, rfl, ⟨by omega, by omega⟩, (by first | (have u := K117; exact tlc_wx L26.o (by omega) (by omega) (by omega) (by omega) e117 (by omega)) | (have u := K105; exact tlc_gx L26.o (by omega) (by omega) (by omega) (by omega) (by omega) o105.1 (by omega)) | (have u := e209; exact tlc_z L26.o (by omega) (by omega) (by omega) e209 (by unfold rg; omega) (by omega)) | exact tlc_x L26.o (by omega) (by omega) (by omega) (by omega)), (by first | exact k209_ | exact k105_ | exact k144_ | exact M26.o)⟩
                      · refine y_iload rfl rfl ?_
                        refine y_iload_n rfl rfl ?_
                        refine y_icmp_ge rfl rfl (by unfold rg; omega) (by unfold rg; omega) (fun w107 => ?_) (fun w108 => ?_)
                        · refine y_iinc rfl rfl rfl rfl ?_
                          have L193 : Hid (TLC S U6 t to from_ z90 (v4 + 1)) := by first | (have u := K117; exact tlc_w L26.o (by omega) (by omega) (by omega) (by omega) e117 (by omega) (c141 (by omega)) g141 e144) | exact tlc_g L26.o (by omega) (by omega) (by omega) (by omega) (by unfold rg; omega) (by omega) e97 F105 rfl o105 (by omega)
                          refine y_goto rfl rfl ?_
                          have w109 : Xi U6 882 3 = Xi T1 882 3 := (show Xi U6 882 3 = Xi T1 882 3 from by rw [eU6]; rfl)
                          exact Pl_weak (ih26 (by omega) U6 hHU6 hFU6 ((v4 + 1)) (z90) (by omega) (by omega) (by omega) (by omega) (by first | exact L193 | exact L41 | exact tlc_0 A24.1 A24.2) (by first | exact k105_ | exact k144_ | exact A25 | exact M26)) (by omega) (And.intro rfl (And.intro rfl (And.intro rfl (And.intro rfl (And.intro rfl (True.intro))))))
                        · refine y_aload_n rfl rfl ?_
                          refine y_iload rfl rfl ?_
                          refine y_baloadP (n := 5000) rfl (tp_sv (by assumption)) (lay_tp (by assumption)) (by decide) (by unfold rg; omega) (fun w110 w111 => ?_)
                          have w112 : -2147483648 ≤ (Xi U6 t ((z90).toNat)) ∧ (Xi U6 t ((z90).toNat)) ≤ 2147483647 := Xi_rgI
                          have y185 : Xi U6 t (z90).toNat = Xi S t (z90).toNat := congrFun (tp_F hFU6 rfl ht) _
                          refine y_bipush rfl rfl ?_
                          refine y_icmp_eq rfl rfl (by unfold rg; omega) (by unfold rg; omega) (fun w113 => ?_) (fun w114 => ?_)
                          · refine y_iinc rfl rfl rfl rfl ?_
                            have L193 : Hid (TLC S U6 t to from_ z90 (v4 + 1)) := by first | (have u := K117; exact tlc_w L26.o (by omega) (by omega) (by omega) (by omega) e117 (by omega) (c141 (by omega)) g141 e144) | exact tlc_g L26.o (by omega) (by omega) (by omega) (by omega) (by unfold rg; omega) (by omega) e97 F105 rfl o105 (by omega)
                            refine y_goto rfl rfl ?_
                            have w115 : Xi U6 882 3 = Xi T1 882 3 := (show Xi U6 882 3 = Xi T1 882 3 from by rw [eU6]; rfl)
                            exact Pl_weak (ih26 (by omega) U6 hHU6 hFU6 ((v4 + 1)) (z90) (by omega) (by omega) (by omega) (by omega) (by first | exact L193 | exact L41 | exact tlc_0 A24.1 A24.2) (by first | exact k105_ | exact k144_ | exact A25 | exact M26)) (by omega) (And.intro rfl (And.intro rfl (And.intro rfl (And.intro rfl (And.intro rfl (True.intro))))))
                          · refine y_iconst rfl ?_
                            refine y_ireturn rfl rfl ?_
                            have w116 : Xi U6 882 3 = Xi T1 882 3 := (show Xi U6 882 3 = Xi T1 882 3 from by rw [eU6]; rfl)
                            exact ⟨hHU6, hFU6, _, rfl, ⟨by omega, by omega⟩, (by first | (have u := K117; exact tlc_wx L26.o (by omega) (by omega) (by omega) (by omega) e117 (by omega)) | (have u := K105; exact tlc_gx L26.o (by omega) (by omega) (by omega) (by omega) (by omega) o105.1 (by omega)) | (have u := e209; exact tlc_z L26.o (by omega) (by omega) (by omega) e209 (by unfold rg; omega) (by omega)) | exact tlc_x L26.o (by omega) (by omega) (by omega) (by omega)), (by first | exact k209_ | exact k105_ | exact k144_ | exact M26.o)⟩
                · refine y_aload_n rfl rfl ?_
                  refine y_gfr rfl rfl rfl rfl rfl (hHT1.r 882 6 885 rfl) ?_
                  refine y_aload_n rfl rfl ?_
                  refine y_gfi rfl rfl rfl rfl rfl ?_
                  refine y_iload rfl rfl ?_
                  refine y_iastoreP (n := 20) rfl rfl (by unfold rg; omega) (fun w117 w118 => ?_)
                  obtain ⟨U7, eU7⟩ : ∃ T : sS, T = uI T1 885 (((Xi T1 882 3)).toNat) (Int32.ofInt v4) := ⟨_, rfl⟩
                  rw [← eU7]
                  have hHU7 : RI U7 := by rw [eU7]; exact RI_w hHT1
                  have hFU7 : FR md_co_takeText__k S U7 := by rw [eU7]; exact FR.wI hFT1 (mdf_i (r := (885, 886, 0, 100000)) (List.mem_of_getElem? (i := 2) rfl) (inR_i (by omega) (by omega) (by omega) (by omega)))
                  have w119 : Xi U7 885 (((Xi T1 882 3)).toNat) = v4 := by rw [eU7]; exact Xi_same (by unfold rg; omega)
                  have e97 := eU7
                  rw [show Xi T1 882 3 = Xi S 882 3 by omega] at e97
                  have k97_ : KOC S U7 := by rw [e97]; exact koc_I M26.o (Or.inl (by omega))
                  refine y_aload_n rfl rfl ?_
                  refine y_aload_n rfl rfl ?_
                  refine y_iload rfl rfl ?_
                  refine y_iconst rfl ?_
                  refine y_iadd rfl ?_
                  refine y_iload_n rfl rfl ?_
                  have w120 : Xi U7 882 3 = Xi T1 882 3 := (show Xi U7 882 3 = Xi T1 882 3 from by rw [eU7]; exact Xi_ne (by omega))
                  refine y_callV rfl rfl rfl (t_co_takeGap__p hHU7 t (v5 + 1) to ht ⟨by omega, by omega⟩ ⟨by omega, by omega⟩ (BYT_F hFU7 rfl ht hby) (by first | assumption | omega) _) ?_
                  rintro _ T8 ⟨hHT8, w123, z122, rfl, w122, o105_, w121⟩
                  have hFT8 : FR md_co_takeText__k S T8 := FR.tr hFU7 w123 rfl
                  show Pl _ _ _ _ _ _ [iv z122] _ _
                  have K105 : True := trivial
                  have o105 := gpo_F hFU7 rfl rfl ht o105_
                  clear o105_
                  have F105 := (by assumption : FR md_co_takeGap__p U7 T8)
                  have k105_ : KOC S T8 := koc_F F105 rfl k97_
                  refine y_istore rfl rfl rfl ?_
                  refine y_goto rfl rfl ?_
                  refine y_iload rfl rfl ?_
                  refine y_iconst rfl ?_
                  refine y_icmp_eq rfl rfl (by unfold rg; omega) (by unfold rg; omega) (fun w124 => ?_) (fun w125 => ?_)
                  · refine y_iconst rfl ?_
                    refine y_ireturn rfl rfl ?_
                    have w126 : Xi T8 882 3 = Xi T1 882 3 := (show Xi T8 882 3 = Xi U7 882 3 from w123.x _ _ rfl).trans ((show Xi U7 882 3 = Xi T1 882 3 from by rw [eU7]; exact Xi_ne (by omega)))
                    exact ⟨hHT8, hFT8, _, rfl, ⟨by omega, by omega⟩, (by first | (have u := K117; exact tlc_wx L26.o (by omega) (by omega) (by omega) (by omega) e117 (by omega)) | (have u := K105; exact tlc_gx L26.o (by omega) (by omega) (by omega) (by omega) (by omega) o105.1 (by omega)) | (have u := e209; exact tlc_z L26.o (by omega) (by omega) (by omega) e209 (by unfold rg; omega) (by omega)) | exact tlc_x L26.o (by omega) (by omega) (by omega) (by omega)), (by first | exact k209_ | exact k105_ | exact k144_ | exact M26.o)⟩
                  · refine y_iload rfl rfl ?_
                    refine y_iload_n rfl rfl ?_
                    refine y_icmp_ge rfl rfl (by unfold rg; omega) (by unfold rg; omega) (fun w127 => ?_) (fun w128 => ?_)
                    · refine y_iinc rfl rfl rfl rfl ?_
                      have L193 : Hid (TLC S T8 t to from_ z122 (v4 + 1)) := by first | (have u := K117; exact tlc_w L26.o (by omega) (by omega) (by omega) (by omega) e117 (by omega) (c141 (by omega)) g141 e144) | exact tlc_g L26.o (by omega) (by omega) (by omega) (by omega) (by unfold rg; omega) (by omega) e97 F105 rfl o105 (by omega)
                      refine y_goto rfl rfl ?_
                      have w129 : Xi T8 882 3 = Xi T1 882 3 := (show Xi T8 882 3 = Xi U7 882 3 from w123.x _ _ rfl).trans ((show Xi U7 882 3 = Xi T1 882 3 from by rw [eU7]; exact Xi_ne (by omega)))
                      exact Pl_weak (ih26 (by omega) T8 hHT8 hFT8 ((v4 + 1)) (z122) (by omega) (by omega) (by omega) (by omega) (by first | exact L193 | exact L41 | exact tlc_0 A24.1 A24.2) (by first | exact k105_ | exact k144_ | exact A25 | exact M26)) (by omega) (And.intro rfl (And.intro rfl (And.intro rfl (And.intro rfl (And.intro rfl (True.intro))))))
                    · refine y_aload_n rfl rfl ?_
                      refine y_iload rfl rfl ?_
                      refine y_baloadP (n := 5000) rfl (tp_sv (by assumption)) (lay_tp (by assumption)) (by decide) (by unfold rg; omega) (fun w130 w131 => ?_)
                      have w132 : -2147483648 ≤ (Xi T8 t ((z122).toNat)) ∧ (Xi T8 t ((z122).toNat)) ≤ 2147483647 := Xi_rgI
                      have y185 : Xi T8 t (z122).toNat = Xi S t (z122).toNat := congrFun (tp_F hFT8 rfl ht) _
                      refine y_bipush rfl rfl ?_
                      refine y_icmp_eq rfl rfl (by unfold rg; omega) (by unfold rg; omega) (fun w133 => ?_) (fun w134 => ?_)
                      · refine y_iinc rfl rfl rfl rfl ?_
                        have L193 : Hid (TLC S T8 t to from_ z122 (v4 + 1)) := by first | (have u := K117; exact tlc_w L26.o (by omega) (by omega) (by omega) (by omega) e117 (by omega) (c141 (by omega)) g141 e144) | exact tlc_g L26.o (by omega) (by omega) (by omega) (by omega) (by unfold rg; omega) (by omega) e97 F105 rfl o105 (by omega)
                        refine y_goto rfl rfl ?_
                        have w135 : Xi T8 882 3 = Xi T1 882 3 := (show Xi T8 882 3 = Xi U7 882 3 from w123.x _ _ rfl).trans ((show Xi U7 882 3 = Xi T1 882 3 from by rw [eU7]; exact Xi_ne (by omega)))
                        exact Pl_weak (ih26 (by omega) T8 hHT8 hFT8 ((v4 + 1)) (z122) (by omega) (by omega) (by omega) (by omega) (by first | exact L193 | exact L41 | exact tlc_0 A24.1 A24.2) (by first | exact k105_ | exact k144_ | exact A25 | exact M26)) (by omega) (And.intro rfl (And.intro rfl (And.intro rfl (And.intro rfl (And.intro rfl (True.intro))))))
                      · refine y_iconst rfl ?_
                        refine y_ireturn rfl rfl ?_
                        have w136 : Xi T8 882 3 = Xi T1 882 3 := (show Xi T8 882 3 = Xi U7 882 3 from w123.x _ _ rfl).trans ((show Xi U7 882 3 = Xi T1 882 3 from by rw [eU7]; exact Xi_ne (by omega)))
                        exact ⟨hHT8, hFT8, _, rfl, ⟨by omega, by omega⟩, (by first | (have u := K117; exact tlc_wx L26.o (by omega) (by omega) (by omega) (by omega) e117 (by omega)) | (have u := K105; exact tlc_gx L26.o (by omega) (by omega) (by omega) (by omega) (by omega) o105.1 (by omega)) | (have u := e209; exact tlc_z L26.o (by omega) (by omega) (by omega) e209 (by unfold rg; omega) (by omega)) | exact tlc_x L26.o (by omega) (by omega) (by omega) (by omega)), (by first | exact k209_ | exact k105_ | exact k144_ | exact M26.o)⟩
              · refine y_iconst rfl ?_
                refine y_ireturn rfl rfl ?_
                exact ⟨hHT1, hFT1, _, rfl, ⟨by omega, by omega⟩, (by first | (have u := K117; exact tlc_wx L26.o (by omega) (by omega) (by omega) (by omega) e117 (by omega)) | (have u := K105; exact tlc_gx L26.o (by omega) (by omega) (by omega) (by omega) (by omega) o105.1 (by omega)) | (have u := e209; exact tlc_z L26.o (by omega) (by omega) (by omega) e209 (by unfold rg; omega) (by omega)) | exact tlc_x L26.o (by omega) (by omega) (by omega) (by omega)), (by first | exact k209_ | exact k105_ | exact k144_ | exact M26.o)⟩
        · refine y_iinc rfl rfl rfl rfl ?_
          have L41 : Hid (TLC S T1 t to from_ (v5 + 1) v4) := tlc_b L26.o (by omega) (by omega)
          refine y_goto rfl rfl ?_
          exact Pl_weak (ih26 (by omega) T1 hHT1 hFT1 (v4) ((v5 + 1)) (by omega) (by omega) (by omega) (by omega) (by first | exact L193 | exact L41 | exact tlc_0 A24.1 A24.2) (by first | exact k105_ | exact k144_ | exact A25 | exact M26)) (by omega) (And.intro rfl (And.intro rfl (And.intro rfl (And.intro rfl (And.intro rfl (True.intro))))))
  refine y_iconst rfl ?_
  refine y_istore rfl rfl rfl ?_
  refine y_iload_n rfl rfl ?_
  refine y_istore rfl rfl rfl ?_
  refine y_aload_n rfl rfl ?_
  refine y_gfr rfl rfl rfl rfl rfl (hH.r 882 6 885 rfl) ?_
  refine y_aload_n rfl rfl ?_
  refine y_gfi rfl rfl rfl rfl rfl ?_
  refine y_iconst rfl ?_
  refine y_iastoreP (n := 20) rfl rfl (by unfold rg; omega) (fun w137 w138 => ?_)
  obtain ⟨U9, eU9⟩ : ∃ T : sS, T = uI S 885 (((Xi S 882 3)).toNat) (Int32.ofInt (-1)) := ⟨_, rfl⟩
  rw [← eU9]
  have hHU9 : RI U9 := by rw [eU9]; exact RI_w hH
  have hFU9 : FR md_co_takeText__k S U9 := by rw [eU9]; exact FR.wI hF (mdf_i (r := (885, 886, 0, 100000)) (List.mem_of_getElem? (i := 2) rfl) (inR_i (by omega) (by omega) (by omega) (by omega)))
  have w139 : Xi U9 885 (((Xi S 882 3)).toNat) = (-1) := by rw [eU9]; exact Xi_same (by unfold rg; omega)
  refine y_aload_n rfl rfl ?_
  refine y_gfr rfl rfl rfl rfl rfl (hHU9.r 882 7 886 rfl) ?_
  refine y_aload_n rfl rfl ?_
  refine y_gfi rfl rfl rfl rfl rfl ?_
  have w140 : (Xi U9 882 3) = (Xi S 882 3) := (show Xi U9 882 3 = Xi S 882 3 from by rw [eU9]; exact Xi_ne (by omega))
  rw [w140]
  refine y_iconst rfl ?_
  refine y_iastoreP (n := 20) rfl rfl (by unfold rg; omega) (fun w141 w142 => ?_)
  obtain ⟨U10, eU10⟩ : ∃ T : sS, T = uI U9 886 (((Xi S 882 3)).toNat) (Int32.ofInt (-1)) := ⟨_, rfl⟩
  rw [← eU10]
  have hHU10 : RI U10 := by rw [eU10]; exact RI_w hHU9
  have hFU10 : FR md_co_takeText__k S U10 := by rw [eU10]; exact FR.wI hFU9 (mdf_i (r := (886, 887, 0, 100000)) (List.mem_of_getElem? (i := 3) rfl) (inR_i (by omega) (by omega) (by omega) (by omega)))
  have w143 : Xi U10 886 (((Xi S 882 3)).toNat) = (-1) := by rw [eU10]; exact Xi_same (by unfold rg; omega)
  have A24 : Xi U10 885 (Xi S 882 3).toNat = -1 ∧ Xi U10 886 (Xi S 882 3).toNat = -1 := ⟨by rw [eU10, Xi_ne (by omega), eU9]; exact Xi_same (by unfold rg; omega), by rw [eU10]; exact Xi_same (by unfold rg; omega)⟩
  have A25 : Hid (KOC S U10) := by have e := eU10; have d := eU9; rw [e]; refine koc_I ?_ (Or.inl (by omega)); rw [d]; exact koc_I koc_0 (Or.inl (by omega))
  have w144 : Xi U10 882 3 = Xi S 882 3 := (show Xi U10 882 3 = Xi U9 882 3 from by rw [eU10]; exact Xi_ne (by omega)).trans ((show Xi U9 882 3 = Xi S 882 3 from by rw [eU9]; exact Xi_ne (by omega)))
  exact Pl_weak (C26 fu (by omega) U10 hHU10 hFU10 (0) (from_) (by omega) (by omega) (by omega) (by omega) (by first | exact L193 | exact L41 | exact tlc_0 A24.1 A24.2) (by first | exact k105_ | exact k144_ | exact A25 | exact M26)) (by omega) (And.intro rfl (And.intro rfl (And.intro rfl (And.intro rfl (And.intro rfl (True.intro))))))
def md_re_understand__k : List rec := [(876, 877, 8, 9), (876, 877, 9, 10), (882, 883, 3, 4), (882, 883, 10, 11), (883, 884, 0, 100000), (884, 885, 0, 100000), (885, 886, 0, 100000), (886, 887, 0, 100000), (887, 888, 0, 100000), (888, 889, 0, 100000)]
abbrev Q_re_understand__k (S : sS) (ts : Nat) : pst := fun r S1 => RI S1 ∧ FR md_re_understand__k S S1 ∧ (∃ z : Int, r = some (iv z) ∧ (0 ≤ z ∧ z ≤ 1) ∧ (KOC S S1))
set_option maxRecDepth 100000 in
theorem t_re_understand__k {S : sS} (hH : RI S) (ts : Nat) (hts : S.2.2 876 4 = some ts) (htp : tp ts) (h13 : 0 ≤ Xi S 1 3 ∧ Xi S 1 3 ≤ 200) (hCE : CEN S) (hf : Xi S 876 8 = 0) (hr : Xi S 876 7 ≤ 5130) (hby : BYT S ts) (hcc : 0 ≤ Xi S 882 3 ∧ Xi S 882 3 ≤ 20) (h1r : 1 < Xi S 876 7) (hpx : 0 ≤ pc7 S 1 ∧ 0 ≤ Xj S 879 1 ∧ pc7 S 1 + 1 + Xj S 879 1 < 5000) (d : Nat) : Mp lay0 (d + 6) m_re_understand [.ref 891] S (Q_re_understand__k S ts) := by
  refine Mp_R rfl rfl (fun fu => ?_)
  have hF : FR md_re_understand__k S S := FR.rf
  have w1 : -2147483648 ≤ Xi S 1 3 ∧ Xi S 1 3 ≤ 2147483647 := Xi_rgI
  have w2 : -2147483648 ≤ Xi S 876 7 ∧ Xi S 876 7 ≤ 2147483647 := Xi_rgI
  have w3 : -2147483648 ≤ Xi S 876 8 ∧ Xi S 876 8 ≤ 2147483647 := Xi_rgI
  have w4 : -2147483648 ≤ Xi S 882 3 ∧ Xi S 882 3 ≤ 2147483647 := Xi_rgI
  refine y_aload_n rfl rfl ?_
  refine y_gfr rfl rfl rfl rfl rfl (hH.r 891 4 895 rfl) ?_
  refine y_bipush rfl rfl ?_
  refine y_iconst rfl ?_
  refine y_aload_n rfl rfl ?_
  refine y_gfr rfl rfl rfl rfl rfl (hH.r 891 0 876 rfl) ?_
  refine y_iconst rfl ?_
  refine y_callV rfl rfl rfl (t_to_runEnd__p hH 3 ⟨by omega, by omega⟩ _) ?_
  rintro _ _ ⟨rfl, z6, rfl, w6, g12, w5⟩
  show Pl _ _ _ _ _ _ [iv z6, iv 3, iv 8, .ref 895] _ _
  have gq12 := g12
  refine y_callV rfl rfl rfl (t_me_find__p hH 8 3 z6 ⟨by omega, by omega⟩ ⟨by omega, by omega⟩ ⟨by omega, by omega⟩ (by first | assumption | omega) (by first | assumption | exact (CEN_FR hF rfl rfl (by assumption : CEN S))) _) ?_
  rintro _ _ ⟨rfl, z7, rfl, w7, v15⟩
  show Pl _ _ _ _ _ _ [iv z7] _ _
  have a15 : z7 = (fnd S 8 3 (re7 (ty7 S) 3)) := by first | (rw [gq12]; exact v15) | (rw [g12]; exact v15)
  refine y_istore_n rfl rfl rfl ?_
  refine y_aload_n rfl rfl ?_
  refine y_gfr rfl rfl rfl rfl rfl (hH.r 891 0 876 rfl) ?_
  refine y_iconst rfl ?_
  refine y_callV rfl rfl rfl (t_to_placeAt__p hH 1 ⟨by omega, by omega⟩ _) ?_
  rintro _ _ ⟨rfl, z8, rfl, w8, q24⟩
  show Pl _ _ _ _ _ _ [iv z8] _ _
  have k24 : z8 = pc7 S 1 := q24
  refine y_iconst rfl ?_
  refine y_iadd rfl ?_
  refine y_istore_n rfl rfl rfl ?_
  refine y_aload_n rfl rfl ?_
  refine y_gfr rfl rfl rfl rfl rfl (hH.r 891 6 882 rfl) ?_
  refine y_gfi rfl rfl rfl rfl rfl ?_
  refine y_bipush rfl rfl ?_
  refine y_icmp_lt rfl rfl (by unfold rg; omega) (by unfold rg; omega) (fun w9 => ?_) (fun w10 => ?_)
  · refine y_aload_n rfl rfl ?_
    refine y_gfr rfl rfl rfl rfl rfl (hH.r 891 6 882 rfl) ?_
    refine y_aload_n rfl rfl ?_
    refine y_gfr rfl rfl rfl rfl rfl (hH.r 891 0 876 rfl) ?_
    refine y_gfr rfl rfl rfl rfl rfl ((hF 876 4 rfl).2.2.trans hts) ?_
    refine y_iload_n rfl rfl ?_
    refine y_iload_n rfl rfl ?_
    refine y_aload_n rfl rfl ?_
    refine y_gfr rfl rfl rfl rfl rfl (hH.r 891 0 876 rfl) ?_
    refine y_iconst rfl ?_
    refine y_callV rfl rfl rfl (t_to_valueAt__p hH 1 ⟨by omega, by omega⟩ _) ?_
    rintro _ _ ⟨rfl, z12, rfl, w12, p71⟩
    show Pl _ _ _ _ _ _ [iv z12, iv (z8 + 1), iv (z8 + 1), .ref ts, .ref 882] _ _
    have k71 : z12 = Xj S 879 1 := p71 (by omega) (by omega) (by show (0 : Int) ≤ Xj S 879 1; omega) (by show Xj S 879 1 ≤ 2147483647; omega)
    refine y_iadd rfl ?_
    refine y_callV rfl rfl rfl (t_co_takeText__k hH ts (z8 + 1) ((z8 + 1) + z12) htp ⟨by omega, by omega⟩ ⟨by omega, by omega⟩ (hby) (by first | assumption | omega) (by first | assumption | omega) _) ?_
    rintro _ T1 ⟨hHT1, w14, z13, rfl, w13, o75, kk75⟩
    have hFT1 : FR md_re_understand__k S T1 := FR.tr hF w14 rfl
    show Pl _ _ _ _ _ _ [iv z13] _ _
    have K75 : True := trivial
    have F75 := (by assumption : FR md_co_takeText__k S T1)
    have k75_ : KOC S T1 := kk75
    have X75 : TXO S T1 ts (pc7 S 1 + 1) (pc7 S 1 + 1 + Xj S 879 1) z13 := by have u := o75; rw [k24, k71] at u; exact u
    clear o75
    have c75 : Xi T1 882 3 = Xi S 882 3 := F75.x 882 3 rfl
    have z75 : Xi T1 876 8 = 0 := (F75.x 876 8 rfl).trans hf
    have g75 : z13 = 1 → Xi T1 885 (Xi S 882 3).toNat ≠ -1 → 0 ≤ Xi T1 882 10 ∧ Xi T1 882 10 ≤ 5000 := fun q w => txo_g (by omega) X75 q w
    refine y_if_eq rfl rfl (by unfold rg; omega) (fun w15 => ?_) (fun w16 => ?_)
    · refine y_aload_n rfl rfl ?_
      refine y_gfr rfl rfl rfl rfl rfl (hHT1.r 891 0 876 rfl) ?_
      refine y_bipush rfl rfl ?_
      refine y_iconst rfl ?_
      have w17 : Xi T1 876 8 = Xi S 876 8 := (show Xi T1 876 8 = Xi S 876 8 from w14.x _ _ rfl)
      have w18 : Xi T1 876 9 = Xi S 876 9 := (show Xi T1 876 9 = Xi S 876 9 from w14.x _ _ rfl)
      refine y_callV rfl rfl rfl (t_to_wrong__p hHT1 8 1 ⟨by omega, by omega⟩ ⟨by omega, by omega⟩ _) ?_
      rintro _ T2 ⟨hHT2, w23, z22, rfl, w22, w20, f104, w21⟩
      have hFT2 : FR md_re_understand__k S T2 := FR.tr hFT1 w23 rfl
      show Pl _ _ _ _ _ _ [iv z22] _ _
      have k104_ : KOC S T2 := by first | exact koc_F (by assumption : FR md_to_wrong__p T1 T2) rfl k91_ | exact koc_F (by assumption : FR md_to_wrong__p T1 T2) rfl k75_
      refine y_ireturn rfl (retI_z (by omega)) ?_
      exact ⟨hHT2, hFT2, _, rfl, ⟨by omega, by omega⟩, (by first | exact k128_ | exact k119_ | exact k104_ | exact k49_)⟩
    · refine y_iload_n rfl rfl ?_
      refine y_iconst rfl ?_
      refine y_icmp_eq rfl rfl (by unfold rg; omega) (by unfold rg; omega) (fun w25 => ?_) (fun w26 => ?_)
      · refine y_iload_n rfl rfl ?_
        refine y_iconst rfl ?_
        refine y_icmp_ne rfl rfl (by unfold rg; omega) (by unfold rg; omega) (fun w27 => ?_) (fun w28 => ?_)
        · exfalso; omega
        · refine y_aload_n rfl rfl ?_
          refine y_gfr rfl rfl rfl rfl rfl (hHT1.r 891 0 876 rfl) ?_
          refine y_iconst rfl ?_
          refine y_iconst rfl ?_
          have w29 : Xi T1 876 8 = Xi S 876 8 := (show Xi T1 876 8 = Xi S 876 8 from w14.x _ _ rfl)
          have w30 : Xi T1 876 9 = Xi S 876 9 := (show Xi T1 876 9 = Xi S 876 9 from w14.x _ _ rfl)
          refine y_callV rfl rfl rfl (t_to_wrong__p hHT1 4 3 ⟨by omega, by omega⟩ ⟨by omega, by omega⟩ _) ?_
          rintro _ T3 ⟨hHT3, w35, z34, rfl, w34, w32, f119, w33⟩
          have hFT3 : FR md_re_understand__k S T3 := FR.tr hFT1 w35 rfl
          show Pl _ _ _ _ _ _ [iv z34] _ _
          have k119_ : KOC S T3 := koc_F (by assumption : FR md_to_wrong__p T1 T3) rfl k75_
          refine y_ireturn rfl (retI_z (by omega)) ?_
          exact ⟨hHT3, hFT3, _, rfl, ⟨by omega, by omega⟩, (by first | exact k128_ | exact k119_ | exact k104_ | exact k49_)⟩
      · refine y_aload_n rfl rfl ?_
        refine y_gfr rfl rfl rfl rfl rfl (hHT1.r 891 6 882 rfl) ?_
        refine y_iload_n rfl rfl ?_
        have w37 : Xi T1 1 3 = Xi S 1 3 := (show Xi T1 1 3 = Xi S 1 3 from w14.x _ _ rfl)
        have w38 : Xi T1 876 8 = Xi S 876 8 := (show Xi T1 876 8 = Xi S 876 8 from w14.x _ _ rfl)
        have w39 : Xi T1 882 3 = Xi S 882 3 := (show Xi T1 882 3 = Xi S 882 3 from w14.x _ _ rfl)
        refine y_callV rfl rfl rfl (t_co_suits__p hHT1 z7 ⟨by omega, by omega⟩ (by first | assumption | omega) (by first | assumption | exact (CEN_FR hFT1 rfl rfl (by assumption : CEN S))) (by first | assumption | omega) (by rw [c75]; exact g75 (by omega)) _) ?_
        rintro _ T4 ⟨hHT4, w41, z40, rfl, w40, o91⟩
        have hFT4 : FR md_re_understand__k S T4 := FR.tr hFT1 w41 rfl
        show Pl _ _ _ _ _ _ [iv z40] _ _
        have K91 : True := trivial
        have k91_ : KOC S T4 := koc_s k75_ c75 o91
        clear o91
        refine y_if_ne rfl rfl (by unfold rg; omega) (fun w42 => ?_) (fun w43 => ?_)
        · refine y_iload_n rfl rfl ?_
          refine y_iconst rfl ?_
          refine y_icmp_ne rfl rfl (by unfold rg; omega) (by unfold rg; omega) (fun w44 => ?_) (fun w45 => ?_)
          · refine y_aload_n rfl rfl ?_
            refine y_gfr rfl rfl rfl rfl rfl (hHT4.r 891 6 882 rfl) ?_
            refine y_iload_n rfl rfl ?_
            have w46 : Xi T4 876 8 = Xi S 876 8 := (show Xi T4 876 8 = Xi T1 876 8 from w41.x _ _ rfl).trans ((show Xi T1 876 8 = Xi S 876 8 from w14.x _ _ rfl))
            have w47 : Xi T4 882 3 = Xi S 882 3 := (show Xi T4 882 3 = Xi T1 882 3 from w41.x _ _ rfl).trans ((show Xi T1 882 3 = Xi S 882 3 from w14.x _ _ rfl))
            refine y_callV rfl rfl rfl (t_co_addAs__p hHT4 z7 ⟨by omega, by omega⟩ (by first | assumption | omega) _) ?_
            rintro _ T5 ⟨hHT5, w49, rfl, e128⟩
            have hFT5 : FR md_re_understand__k S T5 := FR.tr hFT4 w49 rfl
            show Pl _ _ _ _ _ _ [] _ _
            have k128_ : KOC S T5 := by rw [e128]; exact koc_I (koc_I k91_ (Or.inl (by omega))) (Or.inr (by decide))
            refine y_iconst rfl ?_
            refine y_ireturn rfl rfl ?_
            exact ⟨hHT5, hFT5, _, rfl, ⟨by omega, by omega⟩, (by first | exact k128_ | exact k119_ | exact k104_ | exact k49_)⟩
          · exfalso; omega
        · refine y_aload_n rfl rfl ?_
          refine y_gfr rfl rfl rfl rfl rfl (hHT4.r 891 0 876 rfl) ?_
          refine y_bipush rfl rfl ?_
          refine y_iconst rfl ?_
          have w51 : Xi T4 876 8 = Xi S 876 8 := (show Xi T4 876 8 = Xi T1 876 8 from w41.x _ _ rfl).trans ((show Xi T1 876 8 = Xi S 876 8 from w14.x _ _ rfl))
          have w52 : Xi T4 876 9 = Xi S 876 9 := (show Xi T4 876 9 = Xi T1 876 9 from w41.x _ _ rfl).trans ((show Xi T1 876 9 = Xi S 876 9 from w14.x _ _ rfl))
          refine y_callV rfl rfl rfl (t_to_wrong__p hHT4 8 1 ⟨by omega, by omega⟩ ⟨by omega, by omega⟩ _) ?_
          rintro _ T6 ⟨hHT6, w57, z56, rfl, w56, w54, f104, w55⟩
          have hFT6 : FR md_re_understand__k S T6 := FR.tr hFT4 w57 rfl
          show Pl _ _ _ _ _ _ [iv z56] _ _
          have k104_ : KOC S T6 := by first | exact koc_F (by assumption : FR md_to_wrong__p T4 T6) rfl k91_ | exact koc_F (by assumption : FR md_to_wrong__p T4 T6) rfl k75_
          refine y_ireturn rfl (retI_z (by omega)) ?_
          exact ⟨hHT6, hFT6, _, rfl, ⟨by omega, by omega⟩, (by first | exact k128_ | exact k119_ | exact k104_ | exact k49_)⟩
  · refine y_aload_n rfl rfl ?_
    refine y_gfr rfl rfl rfl rfl rfl (hH.r 891 0 876 rfl) ?_
    refine y_bipush rfl rfl ?_
    refine y_iconst rfl ?_
    refine y_callV rfl rfl rfl (t_to_wrong__p hH 9 1 ⟨by omega, by omega⟩ ⟨by omega, by omega⟩ _) ?_
    rintro _ T7 ⟨hHT7, w62, z61, rfl, w61, w59, f49, w60⟩
    have hFT7 : FR md_re_understand__k S T7 := FR.tr hF w62 rfl
    show Pl _ _ _ _ _ _ [iv z61] _ _
    have k49_ : KOC S T7 := koc_F (by assumption : FR md_to_wrong__p S T7) rfl koc_0
    refine y_ireturn rfl (retI_z (by omega)) ?_
    exact ⟨hHT7, hFT7, _, rfl, ⟨by omega, by omega⟩, (by first | exact k128_ | exact k119_ | exact k104_ | exact k49_)⟩
end
section
/-! class and reference: 1, texts of commands -/
theorem gwk_c {B C : Nat → Int} {kf kg : Int → Int → Prop} {to : Int} (h : BE B C to) (hk : ∀ i : Int, 0 ≤ i → i < we7 B to i → we7 B to i ≤ to → we7 B to i - i ≤ 12 → (kf i (we7 B to i) ↔ kg i (we7 B to i))) : ∀ (n : Nat) (i : Int) (l : List (Int × Int)), 0 ≤ i → gWk B kf to n i l = gWk C kg to n i l
  | 0, _, _, _ => rfl
  | n + 1, i, l, h0 => by
    have u := we7_b (B := B) (e := to) (p := i)
    rw [gWk, gWk, ← we7_c (p := i) h h0]
    by_cases a : to ≤ i
    · rw [if_pos a, if_pos a]
    rw [if_neg a, if_neg a, ← h i.toNat (by omega)]
    by_cases b : B i.toNat = 93
    · rw [if_pos b, if_pos b]
    rw [if_neg b, if_neg b]
    by_cases c : B i.toNat = 32
    · rw [if_pos c, if_pos c]; exact gwk_c h hk n _ _ (by omega)
    rw [if_neg c, if_neg c]
    by_cases d : we7 B to i = i ∨ 12 < we7 B to i - i
    · have d2 : ∀ p : Prop, we7 B to i = i ∨ 12 < we7 B to i - i ∨ p := fun p => d.elim Or.inl (fun q => Or.inr (Or.inl q))
      rw [if_pos (d2 _), if_pos (d2 _)]
    · have k := hk i h0 (by omega) (by omega) (by omega)
      by_cases e : kf i (we7 B to i)
      · rw [if_neg (fun q => q.elim (fun x => d (Or.inl x)) (fun q => q.elim (fun x => d (Or.inr x)) (fun x => x e))), if_neg (fun q => q.elim (fun x => d (Or.inl x)) (fun q => q.elim (fun x => d (Or.inr x)) (fun x => x (k.1 e))))]
        exact gwk_c h hk n _ _ (by omega)
      · rw [if_pos (Or.inr (Or.inr e)), if_pos (Or.inr (Or.inr (fun x => e (k.2 x))))]
theorem gwv_c {B C : Nat → Int} {kf kg : Int → Int → Prop} {to i : Int} (h : BE B C to) (hk : ∀ i : Int, 0 ≤ i → i < we7 B to i → we7 B to i ≤ to → we7 B to i - i ≤ 12 → (kf i (we7 B to i) ↔ kg i (we7 B to i))) (h0 : 0 ≤ i) : gWv B kf to i = gWv C kg to i := by
  unfold gWv
  rw [gwk_c h hk 6000 i [] h0]
theorem twk_c {B C : Nat → Int} {kf kg : Int → Int → Prop} {to : Int} (hb : to < 5999) (h : BE B C to) (hk : ∀ i : Int, 0 ≤ i → i < we7 B to i → we7 B to i ≤ to → we7 B to i - i ≤ 12 → (kf i (we7 B to i) ↔ kg i (we7 B to i))) : ∀ (n : Nat) (i : Int) (l : List (Int × Int)) (gi : Int) (g : List (Int × Int)), 0 ≤ i → tWk B kf to n i l gi g = tWk C kg to n i l gi g
  | 0, _, _, _, _, _ => rfl
  | n + 1, i, l, gi, g, h0 => by
    have u := we7_b (B := B) (e := to) (p := i)
    rw [tWk, tWk, ← we7_c (p := i) h h0, ← gwv_c (i := i + 1) h hk (by omega)]
    by_cases a : to ≤ i
    · rw [if_pos a, if_pos a]
    rw [if_neg a, if_neg a, ← h i.toNat (by omega)]
    by_cases b : B i.toNat = 32
    · rw [if_pos b, if_pos b]; exact twk_c hb h hk n _ _ _ _ (by omega)
    rw [if_neg b, if_neg b]
    by_cases c : l.length = 8 ∨ (B i.toNat = 91 ∧ gi ≠ -1)
    · rw [if_pos c, if_pos c]
    rw [if_neg c, if_neg c]
    by_cases d : B i.toNat = 91
    · rw [if_pos d, if_pos d]
      have v := gwv_r (B := B) (kf := kf) (to := to) (i := i + 1) (by omega)
      by_cases e : (gWv B kf to (i + 1)).1 = -1
      · rw [if_pos (Or.inl e), if_pos (Or.inl e)]
      · have cc : (gWv B kf to (i + 1)).1 < to → B (gWv B kf to (i + 1)).1.toNat = C (gWv B kf to (i + 1)).1.toNat := fun q => h _ (by omega)
        by_cases f : (gWv B kf to (i + 1)).1 < to ∧ B (gWv B kf to (i + 1)).1.toNat ≠ 32
        · rw [if_pos (Or.inr f), if_pos (Or.inr ⟨f.1, by rw [← cc f.1]; exact f.2⟩)]
        · rw [if_neg (fun q => q.elim e f), if_neg (fun q => q.elim e (fun w => f ⟨w.1, by rw [cc w.1]; exact w.2⟩))]
          exact twk_c hb h hk n _ _ _ _ (by omega)
    rw [if_neg d, if_neg d]
    have cc : we7 B to i < to → B (we7 B to i).toNat = C (we7 B to i).toNat := fun q => h _ (by omega)
    by_cases e : we7 B to i = i ∨ 12 < we7 B to i - i ∨ (we7 B to i < to ∧ B (we7 B to i).toNat ≠ 32)
    · rw [if_pos e, if_pos (by rcases e with e | e | e; exact Or.inl e; exact Or.inr (Or.inl e); exact Or.inr (Or.inr ⟨e.1, by rw [← cc e.1]; exact e.2⟩))]
    · rw [if_neg e, if_neg (fun q => e (by rcases q with e | e | e; exact Or.inl e; exact Or.inr (Or.inl e); exact Or.inr (Or.inr ⟨e.1, by rw [cc e.1]; exact e.2⟩)))]
      exact twk_c hb h hk n _ _ _ _ (by omega)
theorem twv_c {B C : Nat → Int} {kf kg : Int → Int → Prop} {to i : Int} (hb : to < 5999) (h : BE B C to) (hk : ∀ i : Int, 0 ≤ i → i < we7 B to i → we7 B to i ≤ to → we7 B to i - i ≤ 12 → (kf i (we7 B to i) ↔ kg i (we7 B to i))) (h0 : 0 ≤ i) : tWv B kf to i = tWv C kg to i := by
  unfold tWv
  rw [twk_c hb h hk 6000 i [] (-1) [] h0]
/-- a word of a text -/
def wOK (B : Nat → Int) (to : Int) (p : Int × Int) : Prop := 0 ≤ p.1 ∧ p.1 < p.2 ∧ p.2 ≤ p.1 + 12 ∧ p.2 ≤ to ∧ lt7 (B p.1.toNat) ≠ 0
theorem wok_e {B : Nat → Int} {to i : Int} (h0 : 0 ≤ i) (hi : i < to) (h1 : we7 B to i ≠ i) (h2 : ¬ 12 < we7 B to i - i) : wOK B to (i, we7 B to i) := by
  have u := we7_b (B := B) (e := to) (p := i)
  exact ⟨h0, by show i < we7 B to i; omega, by show we7 B to i ≤ i + 12; omega, by show we7 B to i ≤ to; omega, fun q => h1 (we7_n q)⟩
theorem gwk_w {B : Nat → Int} {kf : Int → Int → Prop} {to : Int} : ∀ (n : Nat) (i : Int) (l : List (Int × Int)) (r : Int × List (Int × Int)), 0 ≤ i → (∀ p ∈ l, wOK B to p) → gWk B kf to n i l = some r → ∀ p ∈ r.2, wOK B to p
  | 0, i, l, r, _, _, h => by cases h
  | n + 1, i, l, r, h0, hl, h => by
    have u := we7_b (B := B) (e := to) (p := i)
    rw [gWk] at h
    by_cases a : to ≤ i
    · rw [if_pos a] at h; injection h with h; rw [← h]; exact hl
    rw [if_neg a] at h
    by_cases b : B i.toNat = 93
    · rw [if_pos b] at h
      by_cases c : l = []
      · rw [if_pos c] at h; injection h with h; rw [← h]; exact hl
      · rw [if_neg c] at h; injection h with h; rw [← h]; exact hl
    rw [if_neg b] at h
    by_cases c : B i.toNat = 32
    · rw [if_pos c] at h; exact gwk_w n _ _ r (by omega) hl h
    rw [if_neg c] at h
    by_cases d : we7 B to i = i ∨ 12 < we7 B to i - i ∨ ¬ kf i (we7 B to i)
    · rw [if_pos d] at h; injection h with h; rw [← h]; exact hl
    · rw [if_neg d] at h
      refine gwk_w n _ _ r (by omega) (fun p hp => ?_) h
      rcases List.mem_append.mp hp with y | y
      · exact hl p y
      · rw [List.mem_singleton.mp y]
        exact wok_e h0 (by omega) (fun q => d (Or.inl q)) (fun q => d (Or.inr (Or.inl q)))
theorem gwv_w {B : Nat → Int} {kf : Int → Int → Prop} {to i : Int} (h0 : 0 ≤ i) (hb : (to - i).toNat < 6000) : ∀ p ∈ (gWv B kf to i).2, wOK B to p := by
  obtain ⟨y, e⟩ := gw_end (B := B) (kf := kf) (to := to) 6000 i [] hb
  have t := gwk_w _ _ _ _ h0 (fun p hp => by cases hp) e
  rw [← gw_V e hb]
  exact t
theorem twk_w {B : Nat → Int} {kf : Int → Int → Prop} {to : Int} (hb : to < 5999) : ∀ (n : Nat) (i : Int) (l : List (Int × Int)) (gi : Int) (g : List (Int × Int)) (r : Int × List (Int × Int) × Int × List (Int × Int)), 0 ≤ i → (∀ j : Nat, j < l.length → (j : Int) ≠ gi → wOK B to (l.getD j (0, 0))) → (∀ p ∈ g, wOK B to p) → (gi = -1 ∨ gi < l.length) → tWk B kf to n i l gi g = some r → (∀ j : Nat, j < r.2.1.length → (j : Int) ≠ r.2.2.1 → wOK B to (r.2.1.getD j (0, 0))) ∧ ∀ p ∈ r.2.2.2, wOK B to p
  | 0, i, l, gi, g, r, _, _, _, _, h => by cases h
  | n + 1, i, l, gi, g, r, h0, hl, hg, hi, h => by
    have u := we7_b (B := B) (e := to) (p := i)
    rw [tWk] at h
    by_cases a : to ≤ i
    · rw [if_pos a] at h; injection h with h; rw [← h]; exact ⟨hl, hg⟩
    rw [if_neg a] at h
    by_cases b : B i.toNat = 32
    · rw [if_pos b] at h; exact twk_w hb n _ _ _ _ r (by omega) hl hg hi h
    rw [if_neg b] at h
    by_cases c : l.length = 8 ∨ (B i.toNat = 91 ∧ gi ≠ -1)
    · rw [if_pos c] at h; injection h with h; rw [← h]; exact ⟨hl, hg⟩
    rw [if_neg c] at h
    have al : ∀ (x : Int × Int) (j : Nat), j < l.length → (l ++ [x]).getD j (0, 0) = l.getD j (0, 0) := fun x j hj => by simp [List.getD, List.getElem?_append_left hj]
    have ar : ∀ x : Int × Int, (l ++ [x]).getD l.length (0, 0) = x := fun x => by simp [List.getD]
    by_cases d : B i.toNat = 91
    · rw [if_pos d] at h
      have g1 : gi = -1 := Classical.byContradiction (fun q => c (Or.inr ⟨d, q⟩))
      have v := gwv_r (B := B) (kf := kf) (to := to) (i := i + 1) (by omega)
      by_cases e : (gWv B kf to (i + 1)).1 = -1 ∨ ((gWv B kf to (i + 1)).1 < to ∧ B (gWv B kf to (i + 1)).1.toNat ≠ 32)
      · rw [if_pos e] at h; injection h with h; rw [← h]; exact ⟨hl, hg⟩
      · rw [if_neg e] at h
        refine twk_w hb n _ _ _ _ r (by omega) (fun j hj hn => ?_) (gwv_w (by omega) (by omega)) (Or.inr (by simp; omega)) h
        have lj : j < l.length := by simp at hj; omega
        rw [al _ j lj]
        exact hl j lj (by omega)
    rw [if_neg d] at h
    by_cases e : we7 B to i = i ∨ 12 < we7 B to i - i ∨ (we7 B to i < to ∧ B (we7 B to i).toNat ≠ 32)
    · rw [if_pos e] at h; injection h with h; rw [← h]; exact ⟨hl, hg⟩
    · rw [if_neg e] at h
      refine twk_w hb n _ _ _ _ r (by omega) (fun j hj hn => ?_) hg (by simp; omega) h
      by_cases lj : j < l.length
      · rw [al _ j lj]; exact hl j lj hn
      · have : j = l.length := by simp at hj; omega
        subst this
        rw [ar]
        exact wok_e h0 (by omega) (fun q => e (Or.inl q)) (fun q => e (Or.inr (Or.inl q)))
theorem twv_w {B : Nat → Int} {kf : Int → Int → Prop} {to i : Int} (h0 : 0 ≤ i) (hb : to < 5999) : (∀ j : Nat, j < (tWv B kf to i).2.1.length → (j : Int) ≠ (tWv B kf to i).2.2.1 → wOK B to ((tWv B kf to i).2.1.getD j (0, 0))) ∧ ∀ p ∈ (tWv B kf to i).2.2.2, wOK B to p := by
  obtain ⟨y, e⟩ := twk_e (B := B) (kf := kf) hb 6000 i [] (-1) [] h0 (by omega)
  have t := twk_w hb _ _ _ _ _ _ h0 (fun j hj => absurd hj (Nat.not_lt_zero _)) (fun p hp => by cases hp) (Or.inl rfl) e
  rw [← tw_V e ⟨h0, hb⟩]
  exact t
theorem c27_pos {B : Nat → Int} {f : Nat} (h : lt7 (B f) ≠ 0) : ∀ n : Nat, 0 < c27 B f (n + 1)
  | 0 => by
    have t := lt7_r (B f)
    show 0 < (0 : Int) * 27 + lt7 (B (f + 0))
    rw [Nat.add_zero]; omega
  | n + 1 => by
    have ih := c27_pos h n
    have t := lt7_r (B (f + (n + 1)))
    show 0 < c27 B f (n + 1) * 27 + lt7 (B (f + (n + 1)))
    omega
theorem wok_w {B C : Nat → Int} {to : Int} {p : Int × Int} (be : BE B C to) (h : wOK B to p) : wdC (c27 B p.1.toNat (p.2 - p.1).toNat) ∧ c32 C p.1.toNat (p.2 - p.1).toNat = cv (c27 B p.1.toNat (p.2 - p.1).toNat) ∧ (p.2 - p.1).toNat ≤ 12 := by
  obtain ⟨h0, h1, h2, h3, h4⟩ := h
  obtain ⟨m, em⟩ : ∃ m, (p.2 - p.1).toNat = m + 1 := ⟨(p.2 - p.1).toNat - 1, by omega⟩
  have r := (c27_r (B := B) (f := p.1.toNat) (p.2 - p.1).toNat).2
  have b : (27 : Int) ^ (p.2 - p.1).toNat ≤ 150094635296999121 := (by decide : ∀ k : Fin 13, (27 : Int) ^ k.val ≤ 150094635296999121) ⟨(p.2 - p.1).toNat, by omega⟩
  refine ⟨⟨by rw [em]; exact c27_pos h4 m, by omega⟩, ?_, by omega⟩
  rw [c27_c be _ (by omega)]
  exact (cv_c (p.2 - p.1).toNat 13 (by omega)).symm
theorem kf_r {U P : sS} {ts : Nat} {to : Int} (kr : KEYR (Xj U 880) (Xj P 911)) (be : BE (Xi U ts) (Xi P 906) to) (i : Int) (h0 : 0 ≤ i) (h1 : i < we7 (Xi U ts) to i) (h2 : we7 (Xi U ts) to i ≤ to) (h3 : we7 (Xi U ts) to i - i ≤ 12) : kf7 U ts i (we7 (Xi U ts) to i) ↔ kfR P i (we7 (Xi U ts) to i) := by
  obtain ⟨w1, w2, _⟩ := wok_w be (wok_e (B := Xi U ts) h0 (by omega) (by omega) (by omega))
  unfold kf7 kfR
  have w2 : c32 (Xi P 906) i.toNat (we7 (Xi U ts) to i - i).toNat = cv (c27 (Xi U ts) i.toNat (we7 (Xi U ts) to i - i).toNat) := w2
  rw [w2]
  have k := ky_r kr (wd_cd w1) 55 0 (by omega) (by omega)
  have kr2 := kyF_r (K := Xj U 880) (c := c27 (Xi U ts) i.toNat (we7 (Xi U ts) to i - i).toNat) (df := 100) 55 0 (by omega)
  unfold ky7
  have k : kyF (Xj P 911) (cv (c27 (Xi U ts) i.toNat (we7 (Xi U ts) to i - i).toNat)) (-1) 55 0 = if kyF (Xj U 880) (c27 (Xi U ts) i.toNat (we7 (Xi U ts) to i - i).toNat) 100 55 0 = 100 then -1 else kyF (Xj U 880) (c27 (Xi U ts) i.toNat (we7 (Xi U ts) to i - i).toNat) 100 55 0 := k
  rw [k]
  by_cases q : kyF (Xj U 880) (c27 (Xi U ts) i.toNat (we7 (Xi U ts) to i - i).toNat) 100 55 0 = 100
  · rw [if_pos q]; exact ⟨fun _ => rfl, fun _ => q⟩
  · rw [if_neg q]; exact ⟨fun y => absurd y q, fun y => by omega⟩

/-! class and reference: 1 keeps the relation -/
/-- one command, in both -/
def CM1 (U S : sS) (c : Nat) : Prop :=
  (Xi U 883 c = Xi S 946 c ∧ 0 ≤ Xi U 883 c ∧ Xi U 883 c < Xi U 5 8) ∧
  (Xi U 884 c = Xi S 947 c ∧ 1 ≤ Xi U 884 c ∧ Xi U 884 c ≤ 8) ∧
  (Xi U 886 c = Xi S 949 c ∧ -2 ≤ Xi U 886 c ∧ Xi U 886 c < Xi U 5 0) ∧
  (Xi U 885 c = -1 ∨ (0 ≤ Xi U 885 c ∧ Xi U 885 c < Xi U 884 c)) ∧
  ((Xi U 885 c = -1 ↔ Xi U 886 c = -1) ∧ (Xi U 19 (Xi U 883 c).toNat = -1 ↔ Xi U 886 c = -1) ∧ (Xi U 19 (Xi U 883 c).toNat = -2 ↔ Xi U 886 c = -2) ∧ (0 ≤ Xi U 19 (Xi U 883 c).toNat → isK U (Xi U 886 c) (Xi U 19 (Xi U 883 c).toNat) ≠ 0)) ∧
  ∀ j : Nat, (j : Int) < Xi U 884 c → ((j : Int) = Xi U 885 c → Xj S 948 (8 * c + j) = 0) ∧ ((j : Int) ≠ Xi U 885 c → wdC (Xj U 887 (8 * c + j)) ∧ Xj S 948 (8 * c + j) = cv (Xj U 887 (8 * c + j)))
/-- what commands mean -/
def RCM (U S : sS) : Prop := (Xi U 882 3 = Xi S 904 55 ∧ 0 ≤ Xi U 882 3 ∧ Xi U 882 3 ≤ 20) ∧ ∀ c : Nat, (c : Int) < Xi U 882 3 → CM1 U S c
theorem cm1_k {U U1 S S1 : sS} {c : Nat} (h : CM1 U S c) (a1 : Xi U1 883 c = Xi U 883 c) (a2 : Xi U1 884 c = Xi U 884 c) (a3 : Xi U1 885 c = Xi U 885 c) (a4 : Xi U1 886 c = Xi U 886 c) (a5 : ∀ i : Nat, i < 8 → Xj U1 887 (8 * c + i) = Xj U 887 (8 * c + i)) (b1 : Xi S1 946 c = Xi S 946 c) (b2 : Xi S1 947 c = Xi S 947 c) (b4 : Xi S1 949 c = Xi S 949 c) (b5 : ∀ i : Nat, i < 8 → Xj S1 948 (8 * c + i) = Xj S 948 (8 * c + i)) (c8 : Xi U 5 8 ≤ Xi U1 5 8) (c0 : Xi U 5 0 ≤ Xi U1 5 0) (ak : ∀ i : Nat, (i : Int) < Xi U 5 8 → Xi U1 19 i = Xi U 19 i) (kk : ∀ k o : Int, k < Xi U 5 0 → isK U1 k o = isK U k o) : CM1 U1 S1 c := by
  obtain ⟨h1, h2, h3, h4, h5, h6⟩ := h
  unfold CM1
  have e19 := ak (Xi U 883 c).toNat (by omega)
  have ek := kk (Xi U 886 c) (Xi U 19 (Xi U 883 c).toNat) h3.2.2
  rw [a1, a2, a3, a4, b1, b2, b4, e19, ek]
  refine ⟨by omega, h2, by omega, h4, h5, fun j hj => ?_⟩
  rw [a5 j (by omega), b5 j (by omega)]
  exact h6 j hj
theorem RCM.k {U U1 S S1 : sS} (h : RCM U S) (a : KEP [(883, 888)] [(882, 3)] U U1) (b : KEP [(946, 950)] [(904, 55)] S S1) (c8 : Xi U 5 8 ≤ Xi U1 5 8) (c0 : Xi U 5 0 ≤ Xi U1 5 0) (ak : ∀ i : Nat, (i : Int) < Xi U 5 8 → Xi U1 19 i = Xi U 19 i) (kk : ∀ k o : Int, k < Xi U 5 0 → isK U1 k o = isK U k o) : RCM U1 S1 := by
  unfold RCM
  rw [a.f 882 3 (by decide), b.f 904 55 (by decide)]
  exact ⟨h.1, fun c hc => cm1_k (h.2 c hc) (a.x 883 rfl c) (a.x 884 rfl c) (a.x 885 rfl c) (a.x 886 rfl c) (fun i _ => a.j 887 rfl _) (b.x 946 rfl c) (b.x 947 rfl c) (b.x 949 rfl c) (fun i _ => b.j 948 rfl _) c8 c0 ak kk⟩
theorem mnf_k {U : sS} {a b c : Int} (hC : CEN U) (w : WHC U) (h : mnF U a b c / 256 = 0) : 0 ≤ mnF U a b c % 256 ∧ mnF U a b c % 256 < Xi U 5 0 := by
  have ne : mnF U a b c ≠ -1 := fun q => by rw [q] at h; omega
  obtain ⟨j, j0, j1, e⟩ := msc_is (U := U) (a := a) (b := b) (c := c) (Xi U 1 3).toNat 0 ne
  have e : mnF U a b c = Xi U 3 j * 256 + Xi U 4 j := e
  have p := hC j (by omega)
  have d := w j (by omega)
  have s : Xi U 3 j = 0 := by omega
  rw [s] at d
  have d : Xi U 4 j < Xi U 5 0 := d
  omega
theorem sg_0 {s : Int} (h : 0 ≤ s ∧ s ≤ 12) : sg7 s = 0 ↔ s = 0 := by
  constructor
  · intro q
    have t := (ug_sg h).1
    rw [q] at t
    exact t.symm.trans (by decide)
  · intro q; rw [q]; decide
/-- what stands in [ ] of a text, to both -/
theorem mng_r {U W P T : sS} {ts : Nat} {to : Int} {g : List (Int × Int)} (h : RLW U P) (F : FR md_co_takeText__p U W) (be : BE (Xi U ts) (Xi P 906) to) (gp : GPR U W ts g) (gr : GPRR P T g) (hg : ∀ p ∈ g, wOK (Xi U ts) to p) : mnG W = if fmC P T = -1 then -1 else sg7 (Xi P 914 (fmC P T).toNat) * 256 + Xi P 915 (fmC P T).toNat := by
  obtain ⟨g1, g2⟩ := gp
  obtain ⟨r1, r2⟩ := gr
  have wd : ∀ j : Nat, j < g.length → j < 3 → wdC (Xj W 888 j) ∧ Xj T 991 j = cv (Xj W 888 j) := fun j hj h3 => by
    have w := wok_w be (hg _ (List.getElem_mem hj))
    rw [g2 j hj h3, r2 j hj h3]
    exact ⟨w.1, w.2.1⟩
  have mf : ∀ a b c : Int, mnF W a b c = mnF U a b c := fun a b c => mnF_eq (SMV_FR F rfl rfl)
  unfold mnG fmC
  rw [g1, r1]
  generalize en : (g.length : Int) = n
  by_cases q : 1 ≤ n ∧ n ≤ 3
  · rw [if_pos q, if_pos q]
    have t := voc_m (x := Xj W 888 0) (y := Xj W 888 1) (z := Xj W 888 2) h.1.1 q (wd 0 (by omega) (by omega)).1 (fun r => (wd 1 (by omega) (by omega)).1) (fun r => (wd 2 (by omega) (by omega)).1)
    unfold mnR
    rw [mf]
    have d1 : (if 1 < n.toNat then Xj W 888 (0 + 1) else 0) = (if 1 < n then Xj W 888 1 else 0) := by
      by_cases r : 1 < n
      · rw [if_pos r, if_pos (by omega)]
      · rw [if_neg r, if_neg (by omega)]
    have d2 : (if 2 < n.toNat then Xj W 888 (0 + 2) else 0) = (if 2 < n then Xj W 888 2 else 0) := by
      by_cases r : 2 < n
      · rw [if_pos r, if_pos (by omega)]
      · rw [if_neg r, if_neg (by omega)]
    have c0 := (wd 0 (by omega) (by omega)).2
    have c1 : (if 1 < n then Xj T 991 1 else 0) = (if 1 < n then cv (Xj W 888 1) else 0) := by
      by_cases r : 1 < n
      · rw [if_pos r, if_pos r]; exact (wd 1 (by omega) (by omega)).2
      · rw [if_neg r, if_neg r]
    have c2 : (if 2 < n then Xj T 991 2 else 0) = (if 2 < n then cv (Xj W 888 2) else 0) := by
      by_cases r : 2 < n
      · rw [if_pos r, if_pos r]; exact (wd 2 (by omega) (by omega)).2
      · rw [if_neg r, if_neg r]
    rw [d1, d2, c0, c1, c2]
    exact t
  · rw [if_neg q, if_neg q, if_pos rfl]
theorem fm_rg {P T : sS} (x : LXR P) (h : fmC P T ≠ -1) : (0 ≤ Xi P 914 (fmC P T).toNat ∧ Xi P 914 (fmC P T).toNat ≤ 12) ∧ 0 ≤ Xi P 915 (fmC P T).toNat ∧ Xi P 915 (fmC P T).toNat ≤ 63 := by
  by_cases q : 1 ≤ Xi T 904 150 ∧ Xi T 904 150 ≤ 3
  · unfold fmC at h ⊢
    rw [if_pos q] at h ⊢
    obtain ⟨k, e, lt, _⟩ := fdR_is _ h
    rw [e, show ((k : Int)).toNat = k by omega]
    exact x k (by omega)
  · unfold fmC at h
    rw [if_neg q] at h
    exact absurd rfl h
theorem sui_r {U W V P T : sS} {ts : Nat} {a to y gi : Int} {l g : List (Int × Int)} (h : RLW U P) (F : FR md_co_takeText__p U W) (be : BE (Xi U ts) (Xi P 906) to) (x : TXR U W ts l gi g) (xr : TXRR P T l gi g) (hg : ∀ p ∈ g, wOK (Xi U ts) to p) (ha : 0 ≤ a ∧ a < Xi U 5 8) (hy : y = 0 ∨ y = 1) (s : SUI W V y a) : (y = 1 ↔ okKC P T (Xi P 942 a.toNat)) ∧ (y = 1 → (Xi P 942 a.toNat = -1 → V = W ∧ gi = -1) ∧ (Xi P 942 a.toNat = -2 → V = uI W 886 (Xi U 882 3).toNat (Int32.ofInt (-2)) ∧ gi ≠ -1) ∧ (Xi P 942 a.toNat ≠ -1 → Xi P 942 a.toNat ≠ -2 → gi ≠ -1 ∧ V = uI W 886 (Xi U 882 3).toNat (Int32.ofInt (Xi P 915 (fmC P T).toNat)) ∧ (0 ≤ Xi P 915 (fmC P T).toNat ∧ Xi P 915 (fmC P T).toNat < Xi U 5 0) ∧ isK U (Xi P 915 (fmC P T).toNat) (Xi P 942 a.toNat) ≠ 0)) := by
  obtain ⟨x1, x2, x3, x4, x5, x6⟩ := x
  obtain ⟨r1, r2, r3, r4, r5, r6, r7⟩ := xr
  have c3 : Xi W 882 3 = Xi U 882 3 := F.x 882 3 rfl
  have k19 : Xi W 19 a.toNat = Xi P 942 a.toNat := ((F.kep rfl : KEP [(19, 20)] [] U W).x 19 rfl _).trans (h.2.2.2.2.2.2.2.2.1.2 a.toNat (by omega)).1
  unfold SUI at s
  rw [c3, x1, k19] at s
  generalize ek : Xi P 942 a.toNat = k at s ⊢
  obtain ⟨s1, s2, s3⟩ := s
  unfold okKC
  have g0 : gi = -1 → Xi T 904 150 = 0 := fun q => by rw [r4, r5 q]; rfl
  have g9 : gi ≠ -1 → 1 ≤ Xi T 904 150 := fun q => by
    have := (r6 q).1
    have : g.length ≠ 0 := fun w => this (List.length_eq_zero_iff.mp w)
    omega
  have m1 : Xi T 904 150 = 0 → fmC P T = -1 := fun q => by unfold fmC; rw [if_neg (by omega)]
  by_cases q1 : k = -1
  · obtain ⟨a1, a2, a3⟩ := s1 (Or.inl q1)
    refine ⟨⟨fun w => ⟨fun _ => g0 (a1 w).2, fun w => by omega, fun w => absurd q1 w⟩, fun w => ?_⟩, fun w => ⟨fun _ => ⟨a3, (a1 w).2⟩, fun w => by omega, fun w => absurd q1 w⟩⟩
    have z0 := w.1 q1
    rcases hy with e | e
    · exact absurd ⟨q1, Classical.byContradiction (fun y => by have := g9 y; omega)⟩ (a2 e)
    · exact e
  by_cases q2 : gi = -1
  · obtain ⟨a1, a2, a3⟩ := s1 (Or.inr q2)
    have y0 : y ≠ 1 := fun w => q1 (a1 w).1
    refine ⟨⟨fun w => absurd w y0, fun w => ?_⟩, fun w => absurd w y0⟩
    have z0 := g0 q2
    by_cases q3 : k = -2
    · have := (w.2.1 q3).1; omega
    · exact absurd (m1 z0) (w.2.2 q1 q3).1
  obtain ⟨_, gr⟩ := r6 q2
  have gp := x5 q2
  by_cases q3 : k = -2
  · obtain ⟨a1, a2, a3⟩ := s2 q3 q2
    have e0 : (Xi W 882 10 = 1 ∧ Xj W 888 0 = 1230908633051) ↔ (Xi T 904 150 = 1 ∧ Xj T 991 0 = 4726783092206) := by
      rw [gp.1, gr.1]
      by_cases n1 : (g.length : Int) = 1
      · have w := wok_w be (hg _ (List.getElem_mem (show 0 < g.length by omega)))
        have e1 := gp.2 0 (by omega) (by omega)
        have e2 := gr.2 0 (by omega) (by omega)
        rw [← e1, ← e2] at w
        have cd : cv 1230908633051 = 4726783092206 := by decide +kernel
        refine ⟨fun v => ⟨n1, ?_⟩, fun v => ⟨n1, ?_⟩⟩
        · rw [w.2.1, v.2]; exact cd
        · exact cv_inj (wd_cd w.1) (by unfold cd7; decide) (w.2.1.symm.trans (v.2.trans cd.symm))
      · exact ⟨fun v => absurd v.1 n1, fun v => absurd v.1 n1⟩
    refine ⟨⟨fun w => ⟨fun v => absurd v q1, fun _ => e0.1 (a1 w), fun _ v => absurd q3 v⟩, fun w => ?_⟩, fun w => ⟨fun v => absurd v q1, fun _ => ⟨a3, q2⟩, fun _ v => absurd q3 v⟩⟩
    rcases hy with e | e
    · exact absurd (e0.2 (w.2.1 q3)) (a2 e)
    · exact e
  · obtain ⟨a1, a2, a3⟩ := s3 q1 q3 q2
    have mg := mng_r h F be gp gr hg
    have mf : ∀ k o : Int, isK W k o = isK U k o := fun k o => isK_F F rfl k o
    rw [mf] at a1 a2
    have hx := h.1.2.2.2.1
    -- the class's meaning is a kind of the class
    have kd : mnG W / 256 = 0 → 0 ≤ mnG W % 256 ∧ mnG W % 256 < Xi U 5 0 := fun w => by
      unfold mnG at w ⊢
      by_cases n : 1 ≤ Xi W 882 10 ∧ Xi W 882 10 ≤ 3
      · rw [if_pos n] at w ⊢
        unfold mnR at w ⊢
        rw [mnF_eq (SMV_FR F rfl rfl)] at w ⊢
        exact mnf_k h.1.2.2.1 h.2.1 w
      · rw [if_neg n] at w; omega
    have ok : (mnG W / 256 = 0 ∧ isK U (mnG W % 256) k ≠ 0) ↔ (fmC P T ≠ -1 ∧ Xi P 914 (fmC P T).toNat = 0 ∧ blR P (Xi P 915 (fmC P T).toNat) k ≠ 0) := by
      by_cases m : fmC P T = -1
      · rw [if_pos m] at mg
        exact ⟨fun w => by rw [mg] at w; omega, fun w => absurd m w.1⟩
      · rw [if_neg m] at mg
        obtain ⟨b1, b2⟩ := fm_rg hx m
        have u := ug_sg b1
        have d1 : mnG W / 256 = sg7 (Xi P 914 (fmC P T).toNat) := by omega
        have d2 : mnG W % 256 = Xi P 915 (fmC P T).toNat := by omega
        constructor
        · intro w
          have kk := kd w.1
          rw [d2] at w kk
          rw [d1] at w
          exact ⟨m, (sg_0 b1).1 w.1, by rw [← isK_bl h.2.2.2.1 kk.2]; exact w.2⟩
        · intro w
          have z0 : mnG W / 256 = 0 := by rw [d1]; exact (sg_0 b1).2 w.2.1
          have kk := kd z0
          rw [d2] at kk ⊢
          exact ⟨z0, by rw [isK_bl h.2.2.2.1 kk.2]; exact w.2.2⟩
    refine ⟨⟨fun w => ⟨fun v => absurd v q1, fun v => absurd v q3, fun _ _ => ok.1 (a1 w)⟩, fun w => ?_⟩, fun w => ⟨fun v => absurd v q1, fun v => absurd v q3, fun _ _ => ?_⟩⟩
    · rcases hy with e | e
      · exact absurd (ok.2 (w.2.2 q1 q3)) (a2 e)
      · exact e
    · have o := a1 w
      have m := (ok.1 o).1
      rw [if_neg m] at mg
      obtain ⟨b1, b2⟩ := fm_rg hx m
      have u := ug_sg b1
      have d2 : mnG W % 256 = Xi P 915 (fmC P T).toNat := by omega
      have kk := kd o.1
      rw [d2] at a3 kk o
      exact ⟨q2, a3, kk, o.2⟩

/-! class and reference: 1, told to both -/
theorem twk_n {B : Nat → Int} {kf : Int → Int → Prop} {to : Int} : ∀ (n : Nat) (i : Int) (l : List (Int × Int)) (gi : Int) (g : List (Int × Int)) (r : Int × List (Int × Int) × Int × List (Int × Int)), tWk B kf to n i l gi g = some r → (r.1 = 0 ∨ r.1 = 1) ∧ (r.1 = 1 → 1 ≤ r.2.1.length)
  | 0, i, l, gi, g, r, h => by cases h
  | n + 1, i, l, gi, g, r, h => by
    have z0 : ∀ q : Int × List (Int × Int) × Int × List (Int × Int), q = (0, l, gi, g) → (q.1 = 0 ∨ q.1 = 1) ∧ (q.1 = 1 → 1 ≤ q.2.1.length) := fun q e => by rw [e]; exact ⟨Or.inl rfl, fun w => absurd w (by show ¬ (0 : Int) = 1; decide)⟩
    rw [tWk] at h
    split at h
    · injection h with h
      by_cases q : l = []
      · rw [if_pos q] at h; exact z0 r h.symm
      · rw [if_neg q] at h; rw [← h]
        refine ⟨Or.inr rfl, fun _ => ?_⟩
        show 1 ≤ l.length
        have : l.length ≠ 0 := fun w => q (List.length_eq_zero_iff.mp w)
        omega
    split at h
    · exact twk_n n _ _ _ _ r h
    split at h
    · injection h with h; exact z0 r h.symm
    split at h
    · split at h
      · injection h with h; exact z0 r h.symm
      · exact twk_n n _ _ _ _ r h
    split at h
    · injection h with h; exact z0 r h.symm
    · exact twk_n n _ _ _ _ r h
theorem twv_n {B : Nat → Int} {kf : Int → Int → Prop} {to i : Int} (h0 : 0 ≤ i) (hb : to < 5999) : ((tWv B kf to i).1 = 0 ∨ (tWv B kf to i).1 = 1) ∧ ((tWv B kf to i).1 = 1 → 1 ≤ (tWv B kf to i).2.1.length) := by
  obtain ⟨y, e⟩ := twk_e (B := B) (kf := kf) hb 6000 i [] (-1) [] h0 (by omega)
  have t := twk_n _ _ _ _ _ _ e
  rw [← tw_V e ⟨h0, hb⟩]
  exact t
theorem cpj_i {S : sS} {a b s t n i : Nat} (h : i < n) : Xj (cpJ S a b s t n) b (t + i) = Xj S a (s + i) := by
  unfold Xj cpJ va_up va_cpy
  simp [h]
theorem cpj_n {S : sS} {a b s t n k j : Nat} (h : k ≠ b ∨ j < t) : Xj (cpJ S a b s t n) k j = Xj S k j := by
  unfold Xj cpJ va_up va_cpy
  by_cases e : k = b
  · subst e
    have : ¬ (t ≤ j ∧ j < t + n) := by omega
    simp [this]
  · simp [e]
theorem cpj_x {S : sS} {a b s t n k j : Nat} : Xi (cpJ S a b s t n) k j = Xi S k j := rfl
/-- the notes of 1 -/
theorem nt_1 {x : Int × Int × Int} {p q : Int} (h : x.1 = 0) (l : p < q) : NTB (ntF (ntF x 4 q) 8 p) 8 p := by
  have e : ntF x 4 q = (4, q, 2) := by unfold ntF; rw [if_pos (Or.inl h)]; rfl
  rw [e]
  unfold ntF
  rw [if_pos (Or.inr (Or.inl l))]
  exact ⟨rfl, rfl⟩
theorem nt_9 {x : Int × Int × Int} {p q : Int} (h : x.1 = 0) (l : p < q) : NTB (ntF x 9 p) 9 p ∧ NTB (ntF (ntF x 9 p) 8 p) 9 p ∧ NTB (ntF (ntF x 9 p) 4 q) 9 p ∧ NTB (ntF (ntF (ntF x 9 p) 4 q) 8 p) 9 p := by
  have e : ntF x 9 p = (9, p, 0) := by unfold ntF; rw [if_pos (Or.inl h)]; rfl
  have n8 : ntF (9, p, 0) 8 p = (9, p, 0) := by
    unfold ntF
    rw [if_neg]
    rintro (w | w | w)
    · exact absurd w (by show ¬ (9 : Int) = 0; decide)
    · exact absurd w (Int.lt_irrefl _)
    · exact absurd w.2 (by show ¬ rk7 8 < 0; decide)
  have n4 : ntF (9, p, 0) 4 q = (9, p, 0) := by
    unfold ntF
    rw [if_neg]
    rintro (w | w | w)
    · exact absurd w (by show ¬ (9 : Int) = 0; decide)
    · have w : q < p := w; omega
    · have w : q = p := w.1; omega
  rw [e, n8, n4, n8]
  exact ⟨⟨rfl, rfl⟩, ⟨rfl, rfl⟩, ⟨rfl, rfl⟩, ⟨rfl, rfl⟩⟩
theorem st_1 {U U1 S T S1 : sS} {f ts : Nat} {z : Int} (h : RLW U S) (t3 : TX3 U) (cm : RCM U S) (sc : SCX U S f) (kr : KEYR (Xj U 880) (Xj S 911)) (be : BE (Xi U ts) (Xi S 906) (pc7 U 1 + 1 + Xj U 879 1)) (hp : 0 ≤ pc7 U 1 ∧ 0 ≤ Xj U 879 1 ∧ pc7 U 1 + 1 + Xj U 879 1 < 5000) (h1r : 1 < Xi U 876 7) (ty1 : ty7 U 1 = 102) (e81 : Xi S 904 81 = f + 1) (k0 : RNR U S f 0 3 (re7 (ty7 U) 3)) (po : pc7 U 1 < pc7 U 3) (f0 : Xi U 876 8 = 0) (zf : z = 0 → Xi U1 876 8 ≠ 0) (tc : TUN md_co_takeText__p md_co_suits__p U U1 ts z (fnd U 8 3 (re7 (ty7 U) 3)) (pc7 U 1 + 1) (pc7 U 1 + 1 + Xj U 879 1)) (kc : KOC U U1) (Fc : FR md_re_understand__p U U1) (rc : ∃ P : sS, FR lA S P ∧ (Xi P 904 106 = 0 ∧ Xi P 904 108 = 0) ∧ RCO P T) (Fa : FR md_mo_asked__1f S T) (rd : (NT3 T).1 = 0 → RDCM T S1 ∧ FR md_mo_does__1f T S1) : STP U1 T S1 ∧ (Xi U1 876 8 = 0 → RCM U1 S1) := by
  obtain ⟨P, FP, ⟨P0, _⟩, v, qc, n3⟩ := rc
  have hP : RLW U P := h.k t3 KEP.rf (FP.kep rfl)
  have hT : RLW U T := h.k t3 KEP.rf (Fa.kep rfl)
  have sP := sc.kS (FP.kep rfl : KEP [(907, 911)] [] S P)
  have sT := sc.kS (Fa.kep rfl : KEP [(907, 911)] [] S T)
  have kP := k0.kS (FP.kep rfl : KEP [(950, 952)] [] S P)
  have kT := k0.kS (Fa.kep rfl : KEP [(950, 952)] [] S T)
  have rP := scx_s sP hP.1
  have rT := scx_s sT hT.1
  have h15P : 0 ≤ Xi P 904 15 := by have := hP.1.1.1; omega
  have h15T : 0 ≤ Xi T 904 15 := by have := hT.1.1.1; omega
  have aP : fnd U 8 3 (re7 (ty7 U) 3) = rnR P 0 11 := rn_fnd (s := 11) rP kP hP.1.2.2.2.1 h15P (by omega)
  have aT : fnd U 8 3 (re7 (ty7 U) 3) = rnR T 0 11 := rn_fnd (s := 11) rT kT hT.1.2.2.2.1 h15T (by omega)
  have p3 : pc7 U 3 = pR P 0 := rn_pc rP kP
  have e81P : (Xi P 904 81).toNat = f + 1 := by rw [show Xi P 904 81 = Xi S 904 81 from FP.x 904 81 rfl]; omega
  have tk1 := sP.1 1 (by omega)
  have p1 : pc7 U 1 = Xi P 908 (f + 1) := by
    rw [tk1.1]
    unfold pc7
    rw [if_pos ⟨by omega, h1r⟩]; rfl
  have l1 : Xj U 879 1 = Xi P 909 (f + 1) := by
    refine (tk1.2.2.2.2 ?_).symm
    unfold ty7 at ty1
    rw [if_pos ⟨by omega, h1r⟩] at ty1
    exact ty1
  rw [e81P, ← p1, ← l1, ← aP] at qc
  rw [e81P, ← p1] at n3
  unfold n2C n1C at n3
  rw [e81P, ← p1, ← p3, ← aP] at n3
  have c55 : Xi P 904 55 = Xi U 882 3 := (FP.x 904 55 rfl).trans cm.1.1.symm
  rw [c55] at n3
  have n0 : (NT3 P).1 = 0 := P0
  have beP : BE (Xi U ts) (Xi P 906) (pc7 U 1 + 1 + Xj U 879 1) := fun j hj => by rw [(FP.kep rfl : KEP [(906, 907)] [] S P).x 906 rfl j]; exact be j hj
  have krP : KEYR (Xj U 880) (Xj P 911) := fun i hi => by rw [(FP.kep rfl : KEP [(911, 912)] [] S P).j 911 rfl i]; exact kr i hi
  generalize ea : fnd U 8 3 (re7 (ty7 U) 3) = a at *
  generalize eto : pc7 U 1 + 1 + Xj U 879 1 = to at *
  have tw := twv_c (i := pc7 U 1 + 1) (show to < 5999 by omega) beP (kf_r krP beP) (by omega)
  have wk := twv_w (B := Xi U ts) (kf := kf7 U ts) (i := pc7 U 1 + 1) (to := to) (by omega) (by omega)
  have wn := twv_n (B := Xi U ts) (kf := kf7 U ts) (i := pc7 U 1 + 1) (to := to) (by omega) (by omega)
  obtain ⟨x, tx, ok1, ok0, nk⟩ := qc
  obtain ⟨tx1, tx2⟩ := tx
  rw [← tw] at tx1 tx2
  by_cases q20 : 20 ≤ Xi U 882 3
  · obtain ⟨z0, ft⟩ := tc.1 q20
    refine ⟨Or.inl ⟨zf z0, Or.inl ?_⟩, fun w => absurd w (zf z0)⟩
    rw [if_neg (show ¬ Xi U 882 3 < 20 by omega)] at n3
    obtain ⟨m1, m2, m3, m4⟩ := nt_9 n0 po
    rw [n3, ft.1, ft.2]
    by_cases w : v ≠ 0
    · rw [if_pos w]
      by_cases y : a ≠ -1
      · rw [if_pos y]; exact m1
      · rw [if_neg y]; exact m3
    · rw [if_neg w]
      by_cases y : a ≠ -1
      · rw [if_pos y]; exact m2
      · rw [if_neg y]; exact m4
  rw [if_pos (show Xi U 882 3 < 20 by omega)] at n3
  obtain ⟨W, x', F1, ⟨tc1, tc2⟩, cs⟩ := tc.2 (by omega)
  have xx : x' = x := tc1.trans tx1.symm
  subst xx
  have bad : ¬ okC P T a x' → v = 0 := fun w => Classical.byContradiction (fun y => w (ok1 y))
  have fault8 : v = 0 → FTO U U1 8 1 → z = 0 → STP U1 T S1 ∧ (Xi U1 876 8 = 0 → RCM U1 S1) := fun w ft z0 => by
    refine ⟨Or.inl ⟨zf z0, Or.inl ?_⟩, fun y => absurd y (zf z0)⟩
    rw [n3, ft.1, ft.2, if_neg (fun y => y w)]
    by_cases y : a ≠ -1
    · rw [if_pos y]; exact ntb_1 n0
    · rw [if_neg y]; exact nt_1 n0 po
  rcases cs with ⟨x0, z0, ft⟩ | ⟨x1, am, z0, ft⟩ | ⟨x1, an, V, y, F2, su, fin⟩
  · exact fault8 (bad (fun w => w.1 x0)) ft z0
  · refine ⟨Or.inl ⟨zf z0, Or.inl ?_⟩, fun y => absurd y (zf z0)⟩
    have vn : v ≠ 0 := fun w => ok0 w ⟨by omega, fun y => absurd am y⟩
    rw [n3, ft.1, ft.2, if_pos vn, if_neg (fun y => y am)]
    exact ntb_1 n0
  · have c8 := h.2.2.1.2.2.2.2.2.2.2.2
    have rx : ∀ j : Nat, rg (Xi T 904 j) := fun j => by have t : -2147483648 ≤ Xi T 904 j ∧ Xi T 904 j ≤ 2147483647 := Xi_rgI; unfold rg; omega
    have ab : 0 ≤ a ∧ a < Xi U 5 8 := by rw [← ea] at an ⊢; exact fnd_wc (by omega) h.1.2.2.1 h.2.1 an
    obtain ⟨w884, xr⟩ := tc2 x1
    have xrr := tx2 x1
    have l1' := wn.2 (by rw [← tc1]; exact x1)
    generalize eL : (tWv (Xi U ts) (kf7 U ts) to (pc7 U 1 + 1)).2.1 = L at *
    generalize eG : (tWv (Xi U ts) (kf7 U ts) to (pc7 U 1 + 1)).2.2.1 = gi at *
    generalize eg : (tWv (Xi U ts) (kf7 U ts) to (pc7 U 1 + 1)).2.2.2 = g at *
    have hy : y = 0 ∨ y = 1 := by rcases fin with w | w; exact Or.inl w.1; exact Or.inr w.1
    obtain ⟨sr1, sr2⟩ := sui_r hP F1 beP xr xrr wk.2 ab hy su
    rcases fin with ⟨y0, z0, ft⟩ | ⟨y1, z1, eU⟩
    · exact fault8 (bad (fun w => absurd (sr1.2 (w.2 an)) (by omega))) ft z0
    · have okk := sr1.1 y1
      have okc : okC P T a x' := ⟨by omega, fun _ => okk⟩
      have vn : v ≠ 0 := fun w => ok0 w okc
      rw [if_pos vn, if_pos an] at n3
      have x0 : (NT3 T).1 = 0 := by rw [n3]; exact n0
      obtain ⟨rd, Fd⟩ := rd x0
      obtain ⟨nk1, nk2, nk3⟩ := nk.2 (by omega) an
      have sr2 := sr2 y1
      have f1 : Xi U1 876 8 = 0 := by
        rw [eU, Xi_ne (by omega), Xi_ne (by omega)]
        exact (F2.x 876 8 rfl).trans ((F1.x 876 8 rfl).trans f0)
      have r1 : RLW U1 S1 := hT.k t3 (Fc.kep rfl) (Fd.kep rfl)
      refine ⟨Or.inr ⟨f1, x0, nt_k (ks := []) (fs := [(904, 106)]) (Fd.kep rfl) (by decide) x0, r1⟩, fun _ => ?_⟩
      have c5 : ∀ j, Xi U1 5 j = Xi U 5 j := (Fc.kep rfl : KEP [(5, 6)] [] U U1).x 5 rfl
      have c19 : ∀ j, Xi U1 19 j = Xi U 19 j := (Fc.kep rfl : KEP [(19, 20)] [] U U1).x 19 rfl
      have ck : ∀ k o : Int, isK U1 k o = isK U k o := fun k o => isK_F Fc rfl k o
      have T55 : Xi T 904 55 = Xi U 882 3 := (Fa.x 904 55 rfl).trans cm.1.1.symm
      unfold RDCM at rd
      rw [T55, ← aT] at rd
      have cb := cm.1
      obtain ⟨C, eC⟩ := Int.eq_ofNat_of_zero_le cb.2.1
      rw [eC] at rd eU
      rw [show ((C : Nat) : Int).toNat = C by omega] at rd eU
      rw [show (0 : Int).toNat = 0 by decide, show (8 : Int).toNat = 8 by decide, show (8 * (C : Int)).toNat = 8 * C by omega] at rd
      have u1 : Xi U1 882 3 = C + 1 := by rw [eU]; exact Xi_same (by unfold rg; omega)
      have s1 : Xi S1 904 55 = C + 1 := by rw [rd]; exact Xi_same (by unfold rg; omega)
      have bS : KEP [(946, 950)] [(904, 55)] S T := Fa.kep rfl
      refine ⟨⟨by omega, by omega, by omega⟩, fun c hc => ?_⟩
      by_cases old : (c : Int) < C
      · obtain ⟨⟨o1, o2, o3, o4⟩, o5⟩ := kc c (by omega)
        refine cm1_k (cm.2 c (by omega)) o1 o2 o3 o4 o5 ?_ ?_ ?_ (fun i hi => ?_) (by rw [c5]; omega) (by rw [c5]; omega) (fun i _ => c19 i) (fun k o _ => ck k o)
        · rw [rd, Xi_ne (by omega), cpj_x, Xi_ne (by omega), Xi_ne (by omega), Xi_ne (by omega)]; exact bS.x 946 rfl c
        · rw [rd, Xi_ne (by omega), cpj_x, Xi_ne (by omega), Xi_ne (by omega), Xi_ne (by omega)]; exact bS.x 947 rfl c
        · rw [rd, Xi_ne (by omega), cpj_x, Xi_ne (by omega), Xi_ne (by omega), Xi_ne (by omega)]; exact bS.x 949 rfl c
        · rw [rd, Xj_I, cpj_n (Or.inr (by omega)), Xj_I, Xj_I, Xj_I]; exact bS.j 948 rfl _
      · have ec : c = C := by omega
        subst ec
        rw [show (Xi U 882 3).toNat = c by omega] at sr2 w884
        have V4 : Xi V 884 c = Xi W 884 c := (F2.kep rfl : KEP [(884, 885)] [] W V).x 884 rfl c
        have V5 : Xi V 885 c = Xi W 885 c := (F2.kep rfl : KEP [(885, 886)] [] W V).x 885 rfl c
        have V7 : ∀ j, Xj V 887 j = Xj W 887 j := (F2.kep rfl : KEP [(887, 888)] [] W V).j 887 rfl
        obtain ⟨xa, xb, xc, xd, xe, xf⟩ := xr
        rw [show (Xi U 882 3).toNat = c by omega] at xa xb
        have g3 : Xi U1 883 c = a := by rw [eU, Xi_ne (by omega)]; exact Xi_same (by unfold rg; omega)
        have g4 : Xi U1 884 c = L.length := by rw [eU, Xi_ne (by omega), Xi_ne (by omega), V4]; exact w884
        have g5 : Xi U1 885 c = gi := by rw [eU, Xi_ne (by omega), Xi_ne (by omega), V5]; exact xa
        have g6 : Xi U1 886 c = Xi V 886 c := by rw [eU, Xi_ne (by omega), Xi_ne (by omega)]
        have g7 : ∀ j, Xj U1 887 j = Xj W 887 j := fun j => by rw [eU, Xj_I, Xj_I]; exact V7 j
        have d6 : Xi S1 946 c = a := by rw [rd, Xi_ne (by omega), cpj_x, Xi_ne (by omega), Xi_ne (by omega)]; exact Xi_same (by unfold rg; omega)
        have d7 : Xi S1 947 c = Xi T 904 151 := by rw [rd, Xi_ne (by omega), cpj_x, Xi_ne (by omega)]; exact Xi_same (rx _)
        have d9 : Xi S1 949 c = Xi T 904 153 := by rw [rd, Xi_ne (by omega), cpj_x]; exact Xi_same (rx _)
        have d8 : ∀ j : Nat, j < 8 → Xj S1 948 (8 * c + j) = Xj T 992 j := fun j hj => by rw [rd, Xj_I, cpj_i hj, Nat.zero_add, Xj_I, Xj_I, Xj_I]
        have ak := hP.2.2.2.2.2.2.2.2.1.2 a.toNat (by omega)
        unfold CM1
        rw [g3, g4, g5, g6, d6, d7, d9, c5, c5, c19, ck, ak.1]
        obtain ⟨ra, rb, rcc, rd4, re, rf, rg7⟩ := xrr
        have kinds : (Xi V 886 c = Xi T 904 153 ∧ -2 ≤ Xi V 886 c ∧ Xi V 886 c < Xi U 5 0) ∧ ((gi = -1 ↔ Xi V 886 c = -1) ∧ (Xi P 942 a.toNat = -1 ↔ Xi V 886 c = -1) ∧ (Xi P 942 a.toNat = -2 ↔ Xi V 886 c = -2) ∧ (0 ≤ Xi P 942 a.toNat → isK U (Xi V 886 c) (Xi P 942 a.toNat) ≠ 0)) := by
          have b0 := hP.2.2.1.1
          have akr := ak.2
          rw [ak.1] at akr
          by_cases k1 : Xi P 942 a.toNat = -1
          · obtain ⟨eV, g0⟩ := sr2.1 k1
            have e8 : Xi V 886 c = -1 := by rw [eV]; exact xb
            rw [nk1 k1, e8]
            refine ⟨⟨rfl, by omega, by omega⟩, ⟨fun _ => rfl, fun _ => g0⟩, ⟨fun _ => rfl, fun _ => k1⟩, ⟨fun w => by omega, fun w => by omega⟩, fun w => by omega⟩
          by_cases k2 : Xi P 942 a.toNat = -2
          · obtain ⟨eV, g0⟩ := sr2.2.1 k2
            have e8 : Xi V 886 c = -2 := by rw [eV]; exact Xi_same (by unfold rg; omega)
            rw [nk2 k2, e8]
            refine ⟨⟨rfl, by omega, by omega⟩, ⟨fun w => absurd w g0, fun w => by omega⟩, ⟨fun w => absurd w k1, fun w => by omega⟩, ⟨fun _ => rfl, fun _ => k2⟩, fun w => by omega⟩
          · obtain ⟨g0, eV, kb, ik⟩ := sr2.2.2 k1 k2
            have e8 : Xi V 886 c = Xi P 915 (fmC P T).toNat := by rw [eV]; exact Xi_same (by unfold rg; omega)
            rw [nk3 k1 k2 okc, e8]
            refine ⟨⟨rfl, by omega, by omega⟩, ⟨fun w => absurd w g0, fun w => by omega⟩, ⟨fun w => absurd w k1, fun w => by omega⟩, ⟨fun w => absurd w k2, fun w => by omega⟩, fun _ => ik⟩
        refine ⟨⟨rfl, ab.1, ab.2⟩, ⟨ra.symm, by omega, by omega⟩, kinds.1, xc, kinds.2, fun j hj => ?_⟩
        have jl : j < L.length := by omega
        rw [d8 j (by omega), rg7 j jl, g7, show 8 * c + j = (((c : Nat) : Int) * 8 + j).toNat by omega]
        rw [eC] at xf
        refine ⟨fun w => if_pos w, fun w => ?_⟩
        have gd : L.getD j (0, 0) = L[j] := by simp [List.getD, List.getElem?_eq_getElem jl]
        have ww := wk.1 j jl w
        rw [gd] at ww
        have w2 := wok_w beP ww
        rw [if_neg w, xf j jl w]
        exact ⟨w2.1, w2.2.1⟩
end
section
/-! class and reference: THINGS -/
theorem tr_key {t k : Int} (h : 0 ≤ t ∧ t ≤ 108) (hk : 100 ≤ k ∧ k < 200) : tr7 t = k ↔ t = k - 100 := by
  unfold tr7
  by_cases q : t < 100
  · rw [if_pos q]; omega
  · rw [if_neg q]
    have e : t = 100 ∨ t = 101 ∨ t = 102 ∨ t = 103 ∨ t = 104 ∨ t = 105 ∨ t = 106 ∨ t = 107 ∨ t = 108 := by omega
    constructor
    · intro w
      exfalso
      rcases e with e | e | e | e | e | e | e | e | e <;> (subst e; revert w; simp; omega)
    · intro w; omega
theorem tkx {U S : sS} {f : Nat} {i : Int} (sc : SCX U S f) (h : 0 ≤ i ∧ i < Xi U 876 7) : tkR S (f + i) = tr7 (ty7 U i) := tk_907 sc h
/-- the it of a definition, the noun of a rule -/
def SLF (U S : sS) : Prop := ((Xi U 895 3 = 54 ∧ Xi U 895 4 = Xi S 904 115 ∧ Xi S 904 116 = -1) ∨ (Xi U 895 3 = 53 ∧ Xi U 895 4 = Xi S 904 116 ∧ Xi S 904 115 = -1)) ∧ -1 ≤ Xi U 895 4 ∧ Xi U 895 4 < Xi U 5 0
/-- a THING of the class, of the reference -/
def TMP (U : sS) (w t : Int) : Prop := (w = -2 ∧ t = (if Xi U 895 3 = 54 then -1 else -2)) ∨ ((0 ≤ w ∧ w < Xi U 5 2) ∧ t = w)
theorem tmp_9 {U : sS} {w t : Int} (h : TMP U w t) : t ≠ -9 ∧ w ≠ -1 := by
  rcases h with ⟨a, b⟩ | ⟨a, b⟩
  · constructor
    · intro q; rw [b] at q; split at q <;> omega
    · omega
  · omega
/-- what a THING is of, in both -/
def THR (U S : sS) (w k t : Int) : Prop := TMP U w t ∧ k = ktC S t ∧ 0 ≤ k ∧ k < Xi U 5 0
theorem thr_self {U S : sS} {k : Int} (sl : SLF U S) (hk : k = 54 ∨ k = 53) : (k = Xi U 895 3 ∧ Xi U 895 4 ≠ -1 → (if k = 54 then Xi S 904 115 else Xi S 904 116) ≠ -1 ∧ THR U S (-2) (Xi U 895 4) (if k = 54 then -1 else -2)) ∧ (¬ (k = Xi U 895 3 ∧ Xi U 895 4 ≠ -1) → (if k = 54 then Xi S 904 115 else Xi S 904 116) = -1) := by
  obtain ⟨s1, s2, s3⟩ := sl
  rcases hk with e | e
  · subst e
    rw [if_pos rfl, if_pos rfl]
    refine ⟨fun ⟨a, b⟩ => ?_, fun a => ?_⟩
    · rcases s1 with ⟨c1, c2, c3⟩ | ⟨c1, c2, c3⟩
      · exact ⟨by omega, Or.inl ⟨rfl, by rw [if_pos c1]⟩, by unfold ktC; rw [if_pos rfl]; exact c2, by omega, s3⟩
      · omega
    · rcases s1 with ⟨c1, c2, c3⟩ | ⟨c1, c2, c3⟩
      · apply Classical.byContradiction
        intro w
        exact a ⟨by omega, by omega⟩
      · exact c3
  · subst e
    rw [if_neg (by decide), if_neg (by decide)]
    refine ⟨fun ⟨a, b⟩ => ?_, fun a => ?_⟩
    · rcases s1 with ⟨c1, c2, c3⟩ | ⟨c1, c2, c3⟩
      · omega
      · exact ⟨by omega, Or.inl ⟨rfl, by rw [if_neg (by omega)]⟩, by unfold ktC; rw [if_neg (by decide), if_pos rfl]; exact c2, by omega, s3⟩
    · rcases s1 with ⟨c1, c2, c3⟩ | ⟨c1, c2, c3⟩
      · exact c3
      · apply Classical.byContradiction
        intro w
        exact a ⟨by omega, by omega⟩
theorem thr_ob {U S : sS} {o : Int} (h : RLW U S) (ho : 0 ≤ o ∧ o < Xi U 5 2) : THR U S o (Xi U 21 o.toNat) o := by
  have oo := h.2.2.2.2.2.2.2.2.2.1.1.2 o.toNat (by omega)
  refine ⟨Or.inr ⟨ho, rfl⟩, ?_, by omega, by omega⟩
  unfold ktC
  rw [if_neg (by omega), if_neg (by omega), if_neg (by omega)]
  exact oo.1
theorem bT_r {U S : sS} {f : Nat} {a : Int} (sc : SCX U S f) (tb : ∀ i : Int, 0 ≤ ty7 U i ∧ ty7 U i ≤ 108) (h : 0 ≤ a ∧ a < Xi U 876 7) : bT (tkR S) (f + a) = f + bA (ty7 U) a := by
  unfold bT bA
  have u := (tr_k (tb a)).2.2.2
  rw [tkx sc h]
  by_cases w : art7 (ty7 U a)
  · have w' : 0 ≤ ty7 U a ∧ ty7 U a ≤ 3 := w
    rw [if_pos (u.2 w'), if_pos w]; omega
  · have w' : ¬ (0 ≤ ty7 U a ∧ ty7 U a ≤ 3) := w
    rw [if_neg (fun y => w' (u.1 y)), if_neg w]
/-- a RUN in the tokens is one in the rows -/
theorem rq_r {U S : sS} {f : Nat} {a e : Int} (sc : SCX U S f) (tb : ∀ i : Int, 0 ≤ ty7 U i ∧ ty7 U i ≤ 108) (h0 : 0 ≤ a) (he : e < Xi U 876 7) (q : RQ (tkR S) (f + a) (f + e)) : a < e ∧ (∀ i : Int, a ≤ i → i < e → ty7 U i = 100) ∧ ty7 U e ≠ 100 := by
  obtain ⟨q1, q2, q3⟩ := q
  refine ⟨by omega, fun i i1 i2 => ?_, fun w => ?_⟩
  · have t := q2 (f + i) (by omega) (by omega)
    rw [tkx sc ⟨by omega, by omega⟩] at t
    exact (tr_k (tb i)).1.1 t
  · rw [tkx sc ⟨by omega, he⟩] at q3
    exact q3 ((tr_k (tb e)).1.2 w)
theorem re_u {T : Int → Int} {a e : Int} (h0 : a ≤ e) (hl : e - a ≤ 5130) (k : ∀ j : Int, a ≤ j → j < e → T j = 100) (q : T e ≠ 100) : re7 T a = e := by
  have g : ∀ (m n : Nat) (r : Int), r + m = e → m < n → a ≤ r → reF T n r = e := fun m => by
    induction m with
    | zero =>
      intro n r h1 h2 h3
      obtain ⟨n', rfl⟩ : ∃ n', n = n' + 1 := ⟨n - 1, by omega⟩
      rw [reF, if_neg (by rw [show r = e by omega]; exact q)]; omega
    | succ m ih =>
      intro n r h1 h2 h3
      obtain ⟨n', rfl⟩ : ∃ n', n = n' + 1 := ⟨n - 1, by omega⟩
      rw [reF, if_pos (k r h3 (by omega))]
      exact ih n' (r + 1) (by omega) (by omega) (by omega)
  exact g (e - a).toNat 5131 a (by omega) (by omega) (Int.le_refl _)
theorem rr_rnr {U S : sS} {f : Nat} {r a e : Int} (h0 : 0 ≤ a) (he : e ≤ Xi U 876 7) (q : a < e ∧ ∀ i : Int, a ≤ i → i < e → ty7 U i = 100) (k : RR S r (f + a) (f + e)) : RNR U S f r a e := ⟨h0, q.1, he, k.2.1, by rw [k.2.2]; omega, q.2⟩
theorem pc_r {U S : sS} {f : Nat} {i : Int} (sc : SCX U S f) (h : 0 ≤ i ∧ i < Xi U 876 7) : pc7 U i = Xi S 908 ((f : Int) + i).toNat := by
  have t := (sc.1 i.toNat (by omega)).1
  rw [show ((f : Int) + i).toNat = f + i.toNat by omega, t]
  unfold pc7
  rw [if_pos h]
/-- a THING as the reference has read it -/
theorem th3_r {U S : sS} {f : Nat} {a l e so ta tr : Int} (h : RLW U S) (sc : SCX U S f) (tb : ∀ i : Int, 0 ≤ ty7 U i ∧ ty7 U i ≤ 108) (sl : SLF U S) (h0 : 0 ≤ a) (t : TH3 (tkR S) S (f + a) (f + e) so ta tr) (he : e ≤ l) (hr : e < Xi U 876 7) (f5 : (f : Int) + e ≤ 5002) : wheC U a l = e ∧ a < e ∧ (a ≤ whrC U a ∧ whrC U a < e) ∧ pc7 U (whrC U a) = Xi S 908 ta.toNat ∧ (so * 10000 + ta) % 10000 = ta ∧ (whoC U a l = -1 → mtV S (so * 10000 + ta) tr = -9 ∧ whkC U a l = -1) ∧ (whoC U a l ≠ -1 → THR U S (whoC U a l) (whkC U a l) (mtV S (so * 10000 + ta) tr)) := by
  have n5 := sc.2
  have key : ∀ (i k : Int), a ≤ i → i ≤ e → 100 ≤ k → k < 200 → (tkR S (f + i) = k ↔ ty7 U i = k - 100) := fun i k i0 i1 k0 k1 => by
    rw [tkx sc ⟨by omega, by omega⟩]
    exact tr_key (tb i) ⟨k0, k1⟩
  have self : ∀ k : Int, thk (ty7 U) a = k → (k = 54 ∨ k = 53) → so = (if k = 54 then 0 else 1) → ta = f + a → the7 (ty7 U) a = e → a < e → wheC U a l = e ∧ a < e ∧ (a ≤ whrC U a ∧ whrC U a < e) ∧ pc7 U (whrC U a) = Xi S 908 ta.toNat ∧ (so * 10000 + ta) % 10000 = ta ∧ (whoC U a l = -1 → mtV S (so * 10000 + ta) tr = -9 ∧ whkC U a l = -1) ∧ (whoC U a l ≠ -1 → THR U S (whoC U a l) (whkC U a l) (mtV S (so * 10000 + ta) tr)) := fun k ek hk es et ee ae => by
    have or' : thk (ty7 U) a = 53 ∨ thk (ty7 U) a = 54 := by omega
    have so2 : so = 0 ∨ so = 1 := by rw [es]; split <;> omega
    unfold wheC whrC whoC whkC
    rw [if_pos or', if_pos or', if_pos or', if_pos or', ek]
    have s := thr_self sl hk
    have mv : mtV S (so * 10000 + ta) tr = (if (if k = 54 then Xi S 904 115 else Xi S 904 116) = -1 then -9 else (if k = 54 then -1 else -2)) := by
      unfold mtV
      rcases hk with e | e
      · subst e
        rw [if_pos rfl] at es
        rw [if_pos (by omega), if_pos rfl, if_pos rfl]
      · subst e
        rw [if_neg (by decide)] at es
        rw [if_neg (by omega), if_pos (by omega), if_neg (show ¬ (53 : Int) = 54 by decide), if_neg (show ¬ (53 : Int) = 54 by decide)]
    refine ⟨ee, ae, ⟨by omega, ae⟩, by rw [et]; exact pc_r sc ⟨h0, by omega⟩, by omega, ?_, ?_⟩
    · by_cases q : k = Xi U 895 3 ∧ Xi U 895 4 ≠ -1
      · rw [if_pos q]; intro w; exact absurd w (by decide)
      · rw [if_neg q, if_neg q, mv, if_pos (s.2 q)]; exact fun _ => ⟨rfl, rfl⟩
    · by_cases q : k = Xi U 895 3 ∧ Xi U 895 4 ≠ -1
      · rw [if_pos q, if_pos q, mv, if_neg (s.1 q).1]; exact fun _ => (s.1 q).2
      · rw [if_neg q]; intro w; exact absurd rfl w
  rcases t with ⟨t1, t2, t3, t4⟩ | ⟨t1, t2, t3, t4⟩ | ⟨t1, t1', t2, t3, t4⟩ | ⟨t1, t2, t3, t4, t5, t6, t7⟩
  · have e1 := (key a 154 (by omega) (by omega) (by omega) (by omega)).1 t1
    have n2 : ¬ (ty7 U a = 2 ∧ ty7 U (a + 1) = 53) := by omega
    exact self 54 (by unfold thk; rw [if_neg n2]; omega) (Or.inl rfl) (by rw [if_pos rfl]; exact t2) t3 (by unfold the7; rw [if_neg n2]; omega) (by omega)
  · have e1 := (key a 153 (by omega) (by omega) (by omega) (by omega)).1 t1
    have n2 : ¬ (ty7 U a = 2 ∧ ty7 U (a + 1) = 53) := by omega
    exact self 53 (by unfold thk; rw [if_neg n2]; omega) (Or.inr rfl) (by rw [if_neg (by decide)]; exact t2) t3 (by unfold the7; rw [if_neg n2]; omega) (by omega)
  · have e1 := (key a 102 (by omega) (by omega) (by omega) (by omega)).1 t1
    rw [show (f : Int) + a + 1 = f + (a + 1) by omega] at t1'
    have e2 := (key (a + 1) 153 (by omega) (by omega) (by omega) (by omega)).1 t1'
    have n2 : ty7 U a = 2 ∧ ty7 U (a + 1) = 53 := by omega
    exact self 53 (by unfold thk; rw [if_pos n2]) (Or.inr rfl) (by rw [if_neg (by decide)]; exact t2) t3 (by unfold the7; rw [if_pos n2]; omega) (by omega)
  · have ab := bA_b (T := ty7 U) (i := a)
    have ar : a < Xi U 876 7 := by
      apply Classical.byContradiction
      intro w
      have := t6.1
      unfold bT at this
      split at this <;> omega
    rw [bT_r sc tb ⟨h0, ar⟩] at t5 t6 t7
    obtain ⟨q1, q2, q3⟩ := rq_r sc tb (by omega) hr t6
    have ru := ru_u (U := U) (a := bA (ty7 U) a) (b := l) (e := e) (by omega) he (by omega) q2 (Or.inr q3)
    have rn := rr_rnr (by omega) (by omega) ⟨q1, q2⟩ t7
    have h15 : 0 ≤ Xi S 904 15 := by have := h.1.1.1; omega
    have fe : fnd U 2 (bA (ty7 U) a) e = rnR S tr 4 := rn_fnd (s := 4) (scx_s sc h.1) rn h.1.2.2.2.1 h15 (by omega)
    have n54 : ty7 U a ≠ 54 := fun w => t1 ((key a 154 (by omega) (by omega) (by omega) (by omega)).2 (by omega))
    have n53 : ty7 U a ≠ 53 := fun w => t2 ((key a 153 (by omega) (by omega) (by omega) (by omega)).2 (by omega))
    have n2 : ¬ (ty7 U a = 2 ∧ ty7 U (a + 1) = 53) := fun ⟨w1, w2⟩ => t3 ⟨(key a 102 (by omega) (by omega) (by omega) (by omega)).2 (by omega), by
      rw [show (f : Int) + a + 1 = f + (a + 1) by omega]
      exact (key (a + 1) 153 (by omega) (by omega) (by omega) (by omega)).2 (by omega)⟩
    have tk : thk (ty7 U) a = ty7 U a := by unfold thk; rw [if_neg n2]
    have nn : ¬ (thk (ty7 U) a = 53 ∨ thk (ty7 U) a = 54) := by rw [tk]; omega
    have b1 : bA (ty7 U) a ≤ a + 1 := by unfold bA; split <;> omega
    unfold wheC whrC whoC whkC
    rw [if_neg nn, if_neg nn, if_neg nn, if_neg nn, ru]
    have mv : mtV S (so * 10000 + ta) tr = if rnR S tr 4 = -1 then -9 else rnR S tr 4 := by
      unfold mtV
      rw [if_neg (by omega), if_neg (by omega)]
      by_cases w : rnR S tr 4 = -1
      · rw [if_pos ⟨by omega, w⟩, if_pos w]
      · rw [if_neg (fun y => w y.2), if_neg w]
    refine ⟨rfl, by omega, ⟨by omega, q1⟩, by rw [t5]; exact pc_r sc ⟨by omega, by omega⟩, by omega, ?_, ?_⟩
    · intro w
      rw [mv, ← fe, if_pos w]
      exact ⟨rfl, by rw [if_neg (fun y => y w)]⟩
    · intro w
      rw [if_pos w, mv, ← fe, if_neg w]
      exact thr_ob h (whc_2 h.1.2.2.1 h.2.1 w)
end
section
/-! class and reference: sayings -/
theorem obx {U S : sS} {f : Nat} {a v : Int} (sc : SCX U S f) (tb : ∀ i : Int, 0 ≤ ty7 U i ∧ ty7 U i ≤ 108) (h0 : 0 ≤ a) (ha : a ≤ v) (hv : v < Xi U 876 7) (n : ¬ (bA (ty7 U) a < v ∧ ∀ j : Int, bA (ty7 U) a ≤ j → j < v → ty7 U j = 100)) : obR S (f + a) (f + v) = -9 := by
  have n5 := sc.2
  have t := bA_b (T := ty7 U) (i := a)
  unfold obR
  apply if_neg
  rintro ⟨w3, w4⟩
  have p := ms_pos w4
  by_cases y : a < v
  · have e2 : oaR S (f + a) (f + v) = f + bA (ty7 U) a := by
      unfold oaR bA
      rw [tk_907 sc ⟨h0, by omega⟩]
      have u := (tr_k (tb a)).2.2.2
      by_cases w : art7 (ty7 U a)
      · have w' : 0 ≤ ty7 U a ∧ ty7 U a ≤ 3 := w
        rw [if_pos ⟨by omega, (u.2 w').1, (u.2 w').2⟩, if_pos w]; omega
      · have w' : ¬ (0 ≤ ty7 U a ∧ ty7 U a ≤ 3) := w
        rw [if_neg (fun y => w' (u.1 ⟨y.2.1, y.2.2⟩)), if_neg w]
    rw [e2] at p w3
    refine n ⟨by omega, fun j j1 j2 => ?_⟩
    have w := w3 (f + j).toNat (by omega) (by omega)
    rw [tk_907 sc ⟨by omega, by omega⟩] at w
    exact (tr_k (tb j)).1.1 w
  · unfold oaR at p
    rw [if_neg (fun w => y (by omega))] at p
    omega
theorem tor9 {S : sS} {p t : Int} (n0 : ¬ toR0 S p t) (n1 : ¬ (t - p = 1 ∨ (t - p = 2 ∧ Xi S 907 p.toNat = 102)) ∨ ¬ toR1 S p t) (o : ¬ toR1 S p t → obR S p t = -9) : toR S p t = -9 := by
  unfold toR
  rw [if_neg n0]
  by_cases q : toR1 S p t
  · rw [if_pos q, if_neg (fun w => n1.elim (fun y => y w.2) (fun y => y q))]
  · rw [if_neg q]; exact o q
/-- tokens that are a THING, to both -/
theorem thg_r {U S : sS} {f : Nat} {a v : Int} (h : RLW U S) (sc : SCX U S f) (tb : ∀ i : Int, 0 ≤ ty7 U i ∧ ty7 U i ≤ 108) (sl : SLF U S) (h0 : 0 ≤ a) (ha : a ≤ v) (hv : v < Xi U 876 7) (nn : ty7 U v ≠ 53) : (wheC U a v = v ∧ whoC U a v ≠ -1 → THR U S (whoC U a v) (whkC U a v) (toR S (f + a) (f + v))) ∧ (¬ (wheC U a v = v ∧ whoC U a v ≠ -1) → toR S (f + a) (f + v) = -9) := by
  have n5 := sc.2
  have bb := bA_b (T := ty7 U) (i := a)
  have key : ∀ (i k : Int), 0 ≤ i → i ≤ v → 100 ≤ k → k < 200 → (Xi S 907 ((f : Int) + i).toNat = k ↔ ty7 U i = k - 100) := fun i k i0 i1 k0 k1 => by
    rw [tk_907 sc ⟨by omega, by omega⟩]
    exact tr_key (tb i) ⟨k0, k1⟩
  have last : ∀ i : Int, 0 ≤ i → i ≤ v → Xi S 907 ((f : Int) + v - 1).toNat = 153 → i = v - 1 → ty7 U i = 53 := fun i i0 i1 w e => by
    have := (key i 153 i0 i1 (by omega) (by omega)).1 (by rw [e, show (f : Int) + (v - 1) = f + v - 1 by omega]; exact w)
    omega
  by_cases c1 : ty7 U a = 54
  · have n2 : ¬ (ty7 U a = 2 ∧ ty7 U (a + 1) = 53) := by omega
    have tk : thk (ty7 U) a = 54 := by unfold thk; rw [if_neg n2]; exact c1
    have te : the7 (ty7 U) a = a + 1 := by unfold the7; rw [if_neg n2]
    have s := thr_self (k := 54) sl (Or.inl rfl)
    rw [if_pos rfl, if_pos rfl] at s
    unfold wheC whoC whkC
    rw [tk, if_pos (Or.inr rfl), if_pos (Or.inr rfl), if_pos (Or.inr rfl), te]
    by_cases e : a + 1 = v
    · have r0 : toR0 S (f + a) (f + v) := ⟨by omega, (key a 154 h0 ha (by omega) (by omega)).2 (by omega)⟩
      unfold toR
      rw [if_pos r0]
      by_cases q : (54 : Int) = Xi U 895 3 ∧ Xi U 895 4 ≠ -1
      · rw [if_pos q, if_pos q, if_neg (s.1 q).1]
        exact ⟨fun _ => (s.1 q).2, fun w => absurd ⟨e, by decide⟩ w⟩
      · rw [if_neg q, if_pos (s.2 q)]
        exact ⟨fun w => absurd rfl w.2, fun _ => rfl⟩
    · refine ⟨fun w => absurd w.1 e, fun _ => ?_⟩
      refine tor9 (fun w => by have := w.1; omega) (Or.inl (fun w => by
        rcases w with w | w
        · omega
        · have := (key a 102 h0 ha (by omega) (by omega)).1 w.2; omega)) (fun _ => obx sc tb h0 ha hv (fun w => ?_))
      have b0 : bA (ty7 U) a = a := by unfold bA art7; rw [if_neg (by omega)]
      have := w.2 a (by omega) (by omega)
      omega
  by_cases c2 : ty7 U a = 53
  · have n2 : ¬ (ty7 U a = 2 ∧ ty7 U (a + 1) = 53) := by omega
    have tk : thk (ty7 U) a = 53 := by unfold thk; rw [if_neg n2]; exact c2
    have te : the7 (ty7 U) a = a + 1 := by unfold the7; rw [if_neg n2]
    have s := thr_self (k := 53) sl (Or.inr rfl)
    rw [if_neg (by decide), if_neg (by decide)] at s
    have n0 : ¬ toR0 S (f + a) (f + v) := fun w => by
      have := (key a 154 h0 ha (by omega) (by omega)).1 w.2; omega
    unfold wheC whoC whkC
    rw [tk, if_pos (Or.inl rfl), if_pos (Or.inl rfl), if_pos (Or.inl rfl), te]
    by_cases e : a + 1 = v
    · have r1 : toR1 S (f + a) (f + v) := ⟨by omega, by rw [show (f : Int) + v - 1 = f + a by omega]; exact (key a 153 h0 ha (by omega) (by omega)).2 (by omega)⟩
      unfold toR
      rw [if_neg n0, if_pos r1]
      by_cases q : (53 : Int) = Xi U 895 3 ∧ Xi U 895 4 ≠ -1
      · rw [if_pos q, if_pos q, if_pos ⟨(s.1 q).1, Or.inl (by omega)⟩]
        exact ⟨fun _ => (s.1 q).2, fun w => absurd ⟨e, by decide⟩ w⟩
      · rw [if_neg q, if_neg q, if_neg (fun w => w.1 (s.2 q))]
        exact ⟨fun w => absurd rfl w.2, fun _ => rfl⟩
    · refine ⟨fun w => absurd w.1 e, fun _ => ?_⟩
      refine tor9 n0 (Or.inl (fun w => by
        rcases w with w | w
        · omega
        · have := (key a 102 h0 ha (by omega) (by omega)).1 w.2; omega)) (fun _ => obx sc tb h0 ha hv (fun w => ?_))
      have b0 : bA (ty7 U) a = a := by unfold bA art7; rw [if_neg (by omega)]
      have := w.2 a (by omega) (by omega)
      omega
  by_cases c3 : ty7 U a = 2 ∧ ty7 U (a + 1) = 53
  · have tk : thk (ty7 U) a = 53 := by unfold thk; rw [if_pos c3]
    have te : the7 (ty7 U) a = a + 2 := by unfold the7; rw [if_pos c3]
    have s := thr_self (k := 53) sl (Or.inr rfl)
    rw [if_neg (by decide), if_neg (by decide)] at s
    have n0 : ¬ toR0 S (f + a) (f + v) := fun w => by
      have := (key a 154 h0 ha (by omega) (by omega)).1 w.2; omega
    have nv : v ≠ a + 1 := fun w => nn (by rw [w]; exact c3.2)
    unfold wheC whoC whkC
    rw [tk, if_pos (Or.inl rfl), if_pos (Or.inl rfl), if_pos (Or.inl rfl), te]
    by_cases e : a + 2 = v
    · have r1 : toR1 S (f + a) (f + v) := ⟨by omega, by rw [show (f : Int) + v - 1 = f + (a + 1) by omega]; exact (key (a + 1) 153 (by omega) (by omega) (by omega) (by omega)).2 (by omega)⟩
      unfold toR
      rw [if_neg n0, if_pos r1]
      by_cases q : (53 : Int) = Xi U 895 3 ∧ Xi U 895 4 ≠ -1
      · rw [if_pos q, if_pos q, if_pos ⟨(s.1 q).1, Or.inr ⟨by omega, (key a 102 h0 ha (by omega) (by omega)).2 (by omega)⟩⟩]
        exact ⟨fun _ => (s.1 q).2, fun w => absurd ⟨e, by decide⟩ w⟩
      · rw [if_neg q, if_neg q, if_neg (fun w => w.1 (s.2 q))]
        exact ⟨fun w => absurd rfl w.2, fun _ => rfl⟩
    · refine ⟨fun w => absurd w.1 e, fun _ => ?_⟩
      refine tor9 n0 (Or.inl (fun w => by omega)) (fun _ => obx sc tb h0 ha hv (fun w => ?_))
      have b0 : bA (ty7 U) a = a + 1 := by unfold bA art7; rw [if_pos (by omega)]
      have := w.2 (a + 1) (by omega) (by omega)
      omega
  · have tk : thk (ty7 U) a = ty7 U a := by unfold thk; rw [if_neg c3]
    have nt : ¬ (ty7 U a = 53 ∨ ty7 U a = 54) := by omega
    have n0 : ¬ toR0 S (f + a) (f + v) := fun w => by
      have := (key a 154 h0 ha (by omega) (by omega)).1 w.2; omega
    have b1 : bA (ty7 U) a ≤ a + 1 := by unfold bA; split <;> omega
    unfold wheC whoC whkC
    rw [tk, if_neg nt, if_neg nt, if_neg nt]
    by_cases q : bA (ty7 U) a < v ∧ ∀ j : Int, bA (ty7 U) a ≤ j → j < v → ty7 U j = 100
    · have ru := ru_u (U := U) (a := bA (ty7 U) a) (b := v) (e := v) (by omega) (by omega) (by omega) q.2 (Or.inl rfl)
      rw [ru]
      obtain ⟨_, _, e3⟩ := nlo_r h.1 sc tb (show NLO U v a v from ⟨q.1, by omega, q.2, Or.inl rfl⟩) h0 (by omega)
      have n1 : ¬ toR1 S (f + a) (f + v) := fun w => by
        have := last (v - 1) (by omega) (by omega) w.2 rfl
        have := q.2 (v - 1) (by omega) (by omega)
        omega
      have et : toR S (f + a) (f + v) = obR S (f + a) (f + v) := by unfold toR; rw [if_neg n0, if_neg n1]
      rw [et, e3]
      by_cases w : fnd U 2 (bA (ty7 U) a) v = -1
      · rw [if_pos w]
        exact ⟨fun y => absurd w y.2, fun _ => rfl⟩
      · rw [if_neg w, if_pos w]
        exact ⟨fun _ => thr_ob h (whc_2 h.1.2.2.1 h.2.1 w), fun y => absurd ⟨rfl, w⟩ y⟩
    · have e9 : toR S (f + a) (f + v) = -9 := by
        refine tor9 n0 ?_ (fun _ => obx sc tb h0 ha hv q)
        by_cases r1 : toR1 S (f + a) (f + v)
        · left
          intro w
          rcases w with w | w
          · exact c2 (last a h0 ha r1.2 (by omega))
          · exact c3 ⟨by have := (key a 102 h0 ha (by omega) (by omega)).1 w.2; omega, last (a + 1) (by omega) (by omega) r1.2 (by omega)⟩
        · exact Or.inr r1
      refine ⟨fun y => ?_, fun _ => e9⟩
      exfalso
      obtain ⟨y1, y2⟩ := y
      have lt := fnd_lt (S := U) (s := 2) (by omega) y2
      rw [y1] at lt
      obtain ⟨_, _, r3⟩ := ren_sp (U := U) (b := v) 5131 (bA (ty7 U) a) (by omega)
      have r3 : ∀ j : Int, bA (ty7 U) a ≤ j → j < ruF U (bA (ty7 U) a) v → ty7 U j = 100 := r3
      rw [y1] at r3
      exact q ⟨lt, r3⟩
theorem who_k {U : sS} {a l : Int} (h : whoC U a l = -1) : whkC U a l = -1 := by
  unfold whoC at h
  unfold whkC
  by_cases q : thk (ty7 U) a = 53 ∨ thk (ty7 U) a = 54
  · rw [if_pos q] at h ⊢
    by_cases w : thk (ty7 U) a = Xi U 895 3 ∧ Xi U 895 4 ≠ -1
    · rw [if_pos w] at h; exact absurd h (by decide)
    · rw [if_neg w]
  · rw [if_neg q] at h ⊢
    rw [if_neg (fun y => y h)]
/-- one verb of a saying, to both -/
theorem qs_rr {U S : sS} {f : Nat} {a b v : Int} (h : RLW U S) (sc : SCX U S f) (tb : ∀ i : Int, 0 ≤ ty7 U i ∧ ty7 U i ≤ 108) (sl : SLF U S) (h0 : 0 ≤ a) (ha : a ≤ v) (hvb : v < b) (hb : b < Xi U 876 7) (nb : ty7 U b ≠ 53) : (qsC U a b v ↔ qsR S (f + a) (f + b) (f + v)) ∧ (qsC U a b v → rs7 U v = rsR S (f + v) ∧ (0 ≤ rs7 U v ∧ rs7 U v < Xi U 5 6) ∧ TMP U (whoC U a v) (toR S (f + a) (f + v)) ∧ TMP U (whoC U (v + 1) b) (toR S (f + v + 1) (f + b))) := by
  have n5 := sc.2
  have h15 : 0 ≤ Xi S 904 15 := by have := h.1.1.1; omega
  have ev : vs7 U v = vsR S (f + v) := by
    unfold vs7 vsR
    rw [tk_907 sc ⟨by omega, by omega⟩]
    have u := (tr_k (tb v)).1
    by_cases q : ty7 U v = 100
    · rw [if_pos q, if_pos (u.2 q)]
      have m := (scx_s sc h.1).1 v (v + 1) (by omega) (by omega) (fun i i1 i2 => by rw [show i = v by omega]; exact q)
      rw [show v + 1 - v = 1 by omega] at m
      exact fnd_ms (s := 10) m h.1.2.2.2.1 h15 (by omega)
    · rw [if_neg q, if_neg (fun y => q (u.1 y))]
  unfold qsC qsR
  rw [← ev]
  by_cases q : vs7 U v = -1
  · exact ⟨⟨fun y => absurd q y.1, fun y => absurd q y.1⟩, fun y => absurd q y.1⟩
  · have t100 : ty7 U v = 100 := by
      apply Classical.byContradiction
      intro y
      apply q
      unfold vs7
      rw [if_neg y]
    have vb : 0 ≤ vs7 U v ∧ vs7 U v < Xi U 5 7 := by
      unfold vs7 at q ⊢
      rw [if_pos t100] at q ⊢
      exact fnd_wc (by omega) h.1.2.2.1 h.2.1 q
    have va := h.2.2.2.2.2.2.2.2.1.1 (vs7 U v).toNat (by omega)
    have re := h.2.2.2.2.2.2.1 (Xi U 18 (vs7 U v).toNat).toNat (by omega)
    have er : rs7 U v = rsR S (f + v) := by unfold rs7 rsR; rw [← ev]; exact va.1
    have eb : rs7 U v = Xi U 18 (vs7 U v).toNat := rfl
    rw [← eb] at re
    rw [← er, ← re.1.1, ← re.1.2]
    have t1 := thg_r (a := a) (v := v) h sc tb sl h0 ha (by omega) (by omega)
    have t2 := thg_r (a := v + 1) (v := b) h sc tb sl (by omega) (by omega) hb nb
    rw [show (f : Int) + (v + 1) = f + v + 1 by omega] at t2
    have part : ∀ (x y K t : Int), ((wheC U x y = y ∧ whoC U x y ≠ -1 → THR U S (whoC U x y) (whkC U x y) t) ∧ (¬ (wheC U x y = y ∧ whoC U x y ≠ -1) → t = -9)) → ((wheC U x y = y ∧ isK U (whkC U x y) K ≠ 0) ↔ ftC S t K ≠ 0) ∧ (wheC U x y = y ∧ isK U (whkC U x y) K ≠ 0 → whoC U x y ≠ -1 ∧ TMP U (whoC U x y) t) := fun x y K t g => by
      by_cases w : wheC U x y = y ∧ whoC U x y ≠ -1
      · obtain ⟨g1, g2, g3, g4⟩ := g.1 w
        have i := isK_bl (o := K) h.2.2.2.1 g4
        refine ⟨?_, fun _ => ⟨w.2, g1⟩⟩
        unfold ftC
        rw [i, g2]
        by_cases k : blR S (ktC S t) K ≠ 0
        · rw [if_pos ⟨(tmp_9 g1).1, k⟩]; exact ⟨fun _ => by decide, fun _ => ⟨w.1, k⟩⟩
        · rw [if_neg (fun y => k y.2)]; exact ⟨fun y => absurd y.2 k, fun y => absurd rfl y⟩
      · have e9 := g.2 w
        have no : ¬ (wheC U x y = y ∧ isK U (whkC U x y) K ≠ 0) := fun y => by
          have wk : whoC U x _ = -1 := Classical.byContradiction (fun z => w ⟨y.1, z⟩)
          have := isK_v rfl y.2
          rw [who_k wk] at this
          omega
        refine ⟨⟨fun y => absurd y no, fun y => ?_⟩, fun y => absurd y no⟩
        exfalso
        apply y
        unfold ftC
        rw [if_neg (fun z => z.1 e9)]
    have p1 := part a v (Xi U 14 (rs7 U v).toNat) _ t1
    have p2 := part (v + 1) b (Xi U 15 (rs7 U v).toNat) _ t2
    unfold qsA
    refine ⟨⟨fun ⟨_, ⟨x1, x2, x3⟩, x4, x5⟩ => ⟨q, p1.1.1 ⟨x1, x2⟩, p2.1.1 ⟨x4, x5⟩⟩, fun ⟨_, x1, x2⟩ => ?_⟩, fun ⟨_, ⟨x1, x2, x3⟩, x4, x5⟩ => ⟨rfl, by omega, (p1.2 ⟨x1, x2⟩).2, (p2.2 ⟨x4, x5⟩).2⟩⟩
    have y1 := p1.1.2 x1
    have y2 := p2.1.2 x2
    exact ⟨q, ⟨y1.1, y1.2, (p1.2 y1).1⟩, y2.1, y2.2⟩

/-! notes at later places; sayings: how many -/
def NTG (p0 : Int) (x y : Int × Int × Int) : Prop := ∃ l : List (Int × Int), (∀ u ∈ l, p0 ≤ u.2) ∧ y = l.foldl (fun x u => ntF x u.1 u.2) x
theorem ntg_0 {p0 : Int} {x : Int × Int × Int} : NTG p0 x x := ⟨[], (fun u h => by cases h), rfl⟩
theorem ntg_1 {p0 f p : Int} {x : Int × Int × Int} (h : p0 ≤ p) : NTG p0 x (ntF x f p) := ⟨[(f, p)], fun u hu => by rw [List.mem_singleton.mp hu]; exact h, rfl⟩
theorem ntg_t {p0 : Int} {x y z : Int × Int × Int} (h : NTG p0 x y) (k : NTG p0 y z) : NTG p0 x z := by
  obtain ⟨l, l1, l2⟩ := h
  obtain ⟨m, m1, m2⟩ := k
  refine ⟨l ++ m, fun u hu => ?_, by rw [List.foldl_append, ← l2]; exact m2⟩
  rcases List.mem_append.mp hu with y | y
  · exact l1 u y
  · exact m1 u y
theorem ntg_n {p0 f p : Int} {x y : Int × Int × Int} (h : NTG p0 x y) (k : p0 ≤ p) : NTG p0 x (ntF y f p) := ntg_t h (ntg_1 k)
theorem ntg_le {p0 p1 : Int} {x y : Int × Int × Int} (h : NTG p0 x y) (k : p1 ≤ p0) : NTG p1 x y := by
  obtain ⟨l, l1, l2⟩ := h
  exact ⟨l, fun u hu => Int.le_trans k (l1 u hu), l2⟩
theorem ntg_if {p0 : Int} {x y z : Int × Int × Int} {c : Prop} [Decidable c] (h : NTG p0 x y) (k : NTG p0 x z) : NTG p0 x (if c then y else z) := by
  by_cases q : c
  · rw [if_pos q]; exact h
  · rw [if_neg q]; exact k
theorem ntg_b {p0 c p : Int} (hc : c ≠ 0) (hp : p < p0) : ∀ (l : List (Int × Int)) (x : Int × Int × Int), (∀ u ∈ l, p0 ≤ u.2) → NTB x c p → NTB (l.foldl (fun x u => ntF x u.1 u.2) x) c p
  | [], _, _, h => h
  | u :: l, x, k, h => ntg_b hc hp l (ntF x u.1 u.2) (fun v hv => k v (List.mem_cons_of_mem _ hv)) (ntb_k h hc (by have := k u (List.mem_cons_self ..); omega))
/-- a fault at an earlier place stands -/
theorem ntg_k {p0 c p : Int} {x y : Int × Int × Int} (h : NTG p0 x y) (b : NTB x c p) (hc : c ≠ 0) (hp : p < p0) : NTB y c p := by
  obtain ⟨l, l1, l2⟩ := h
  rw [l2]
  exact ntg_b hc hp l x l1 b
theorem qs_a {U : sS} {a b : Int} : ¬ qsC U a b a := fun ⟨q, ⟨_, _, w⟩, _⟩ => by
  have t100 : ty7 U a = 100 := by
    apply Classical.byContradiction
    intro y
    apply q
    unfold vs7
    rw [if_neg y]
  apply w
  unfold whoC thk
  rw [if_neg (by omega)]
  have b0 : bA (ty7 U) a = a := by unfold bA art7; rw [if_neg (by omega)]
  rw [b0]
  apply Classical.byContradiction
  intro y
  have lt := fnd_lt (S := U) (s := 2) (by omega) y
  obtain ⟨_, r2, _⟩ := ren_sp (U := U) (b := a) 5131 a (Int.le_refl _)
  have r2 : ruF U a a ≤ a := r2
  omega
def endT (t : Int) : Prop := t = 103 ∨ t = 105 ∨ t = 107 ∨ t = 16 ∨ t = 106
theorem whk_e {U : sS} {b : Int} (e : endT (ty7 U b)) : whkC U b b = -1 := by
  apply who_k
  unfold endT at e
  unfold whoC thk
  rw [if_neg (by omega)]
  have b0 : bA (ty7 U) b = b := by unfold bA art7; rw [if_neg (by omega)]
  rw [b0]
  apply Classical.byContradiction
  intro y
  have lt := fnd_lt (S := U) (s := 2) (by omega) y
  obtain ⟨_, r2, _⟩ := ren_sp (U := U) (b := b) 5131 b (Int.le_refl _)
  have r2 : ruF U b b ≤ b := r2
  omega
theorem qs_b {U : sS} {a b v : Int} (e : endT (ty7 U b)) (hv : v + 1 = b) : ¬ qsC U a b v := fun ⟨_, _, _, w⟩ => by
  rw [hv, whk_e e] at w
  have := isK_v rfl w
  omega
theorem cs_r {U S : sS} {f : Nat} {a b : Int} (h : RLW U S) (sc : SCX U S f) (tb : ∀ i : Int, 0 ≤ ty7 U i ∧ ty7 U i ≤ 108) (sl : SLF U S) (h0 : 0 ≤ a) (hb : b < Xi U 876 7) (nb : ty7 U b ≠ 53) : ∀ n : Nat, a + 1 + n ≤ b → cnS U a b (n + 1) = cnT S (f + a) (f + b) n ∧ 0 ≤ cnS U a b (n + 1) ∧ (cnS U a b (n + 1) = 0 → psT S (f + a) (f + b) n = -1) ∧ (cnS U a b (n + 1) = 1 → psT S (f + a) (f + b) n = f + psS U a b (n + 1) ∧ a ≤ psS U a b (n + 1) ∧ psS U a b (n + 1) < b ∧ qsC U a b (psS U a b (n + 1)))
  | 0, hn => by
    have c0 : cnS U a b (0 + 1) = 0 := by
      rw [cnS, if_neg (by rw [show a + ((0 : Nat) : Int) = a by omega]; exact qs_a), cnS]
    rw [c0]
    exact ⟨rfl, by omega, fun _ => rfl, fun w => absurd w (by decide)⟩
  | n + 1, hn => by
    obtain ⟨i1, i2, i3, i4⟩ := cs_r h sc tb sl h0 hb nb n (by omega)
    have q := qs_rr (v := a + ((n + 1 : Nat) : Int)) h sc tb sl h0 (by omega) (by omega) hb nb
    rw [show (f : Int) + (a + ((n + 1 : Nat) : Int)) = f + a + 1 + n by omega] at q
    rw [cnS, psS, cnT, psT]
    by_cases w : qsC U a b (a + ((n + 1 : Nat) : Int))
    · rw [if_pos w, if_pos w, if_pos (q.1.1 w), i1]
      refine ⟨rfl, by omega, fun y => by omega, fun y => ?_⟩
      have z := i3 (by omega)
      rw [if_pos ⟨z, q.1.1 w⟩]
      exact ⟨by omega, by omega, by omega, w⟩
    · have w' : ¬ qsR S (f + a) (f + b) (f + a + 1 + n) := fun y => w (q.1.2 y)
      rw [if_neg w, if_neg w, if_neg w', if_neg (fun y => w' y.2)]
      exact ⟨i1, i2, i3, i4⟩
/-- a saying, to both: how many, and which -/
theorem say_r {U S S1 : sS} {f : Nat} {a b q c : Int} (h : RLW U S) (sc : SCX U S f) (tb : ∀ i : Int, 0 ≤ ty7 U i ∧ ty7 U i ≤ 108) (sl : SLF U S) (h0 : 0 ≤ a) (hab : a < b) (hb : b < Xi U 876 7) (eb : endT (ty7 U b)) (m : SYRO S S1 q (f + a) (f + b) c) : c = cnS U a b (b - a).toNat ∧ 0 ≤ c ∧ (c = 1 → TMP U (whoC U a (psS U a b (b - a).toNat)) (Xi S1 971 q.toNat) ∧ TMP U (whoC U (psS U a b (b - a).toNat + 1) b) (Xi S1 975 q.toNat) ∧ Xi S1 972 q.toNat = rs7 U (psS U a b (b - a).toNat) ∧ 0 ≤ rs7 U (psS U a b (b - a).toNat) ∧ rs7 U (psS U a b (b - a).toNat) < Xi U 5 6) := by
  obtain ⟨i, j1, j2, j3, r1, r2, r3, r4, r5⟩ := m
  have nb : ty7 U b ≠ 53 := by unfold endT at eb; omega
  have cs := cs_r h sc tb sl h0 hb nb (b - a - 1).toNat (by omega)
  rw [show (b - a - 1).toNat + 1 = (b - a).toNat by omega] at cs
  have same : cnT S (f + a) (f + b) (b - a - 1).toNat = cnT S (f + a) (f + b) (i - (f + a) - 1).toNat ∧ psT S (f + a) (f + b) (b - a - 1).toNat = psT S (f + a) (f + b) (i - (f + a) - 1).toNat := by
    by_cases e : b = a + 1
    · rw [show (b - a - 1).toNat = (i - (f + a) - 1).toNat by omega]; exact ⟨rfl, rfl⟩
    · have n1 : (b - a - 1).toNat = (i - (f + a) - 1).toNat + 1 := by omega
      have qq := qs_rr (v := b - 1) h sc tb sl h0 (by omega) (by omega) hb nb
      have no : ¬ qsR S (f + a) (f + b) (f + a + 1 + (((i - (f + a) - 1).toNat : Nat) : Int)) := fun y => by
        rw [show (f : Int) + a + 1 + (((i - (f + a) - 1).toNat : Nat) : Int) = f + (b - 1) by omega] at y
        exact qs_b eb (by omega) (qq.1.2 y)
      rw [n1, cnT, psT, if_neg no, if_neg (fun y => no y.2)]
      exact ⟨rfl, rfl⟩
  rw [same.1, same.2] at cs
  refine ⟨by rw [cs.1]; exact r1, r2, fun c1 => ?_⟩
  obtain ⟨p1, p2, p3, p4⟩ := cs.2.2.2 (by rw [cs.1, ← r1]; exact c1)
  obtain ⟨_, _, x1, x2, x3⟩ := r5 (by omega)
  have qq := (qs_rr (v := psS U a b (b - a).toNat) h sc tb sl h0 p2 p3 hb nb).2 p4
  rw [p1] at x1 x2 x3
  rw [x1, x2, x3]
  exact ⟨qq.2.2.1, qq.2.2.2, qq.1.symm, qq.2.1⟩
end
section
/-! class and reference: where a test lies -/
theorem lse_n {k now : Int} (h : LSE k) : ¬ ETR k now ∧ k ≠ 104 := by
  unfold LSE at h
  unfold ETR
  omega
theorem th3_in {T : Int → Int} {V : sS} {p e so ta tr : Int} (h : TH3 T V p e so ta tr) : p < e ∧ ∀ i : Int, p ≤ i → i < e → LSE (T i) := by
  rcases h with ⟨t1, _, _, t4⟩ | ⟨t1, _, _, t4⟩ | ⟨t1, t1', _, _, t4⟩ | ⟨t1, t2, t3, t4, t5, t6, t7⟩
  · exact ⟨by omega, fun i i1 i2 => by rw [show i = p by omega]; exact Or.inr (Or.inr (Or.inl t1))⟩
  · exact ⟨by omega, fun i i1 i2 => by rw [show i = p by omega]; exact Or.inr (Or.inr (Or.inr t1))⟩
  · refine ⟨by omega, fun i i1 i2 => ?_⟩
    rcases (by omega : i = p ∨ i = p + 1) with w | w
    · rw [w, t1]; exact Or.inr (Or.inl (by omega))
    · rw [w, t1']; exact Or.inr (Or.inr (Or.inr rfl))
  · obtain ⟨q1, q2, _⟩ := t6
    by_cases w : 100 ≤ T p ∧ T p ≤ 103
    · have b : bT T p = p + 1 := by unfold bT; rw [if_pos w]
      rw [b] at q1 q2
      refine ⟨by omega, fun i i1 i2 => ?_⟩
      by_cases v : i = p
      · rw [v]; exact Or.inr (Or.inl w)
      · exact Or.inl (q2 i (by omega) i2)
    · have b : bT T p = p := by unfold bT; rw [if_neg w]
      rw [b] at q1 q2
      exact ⟨q1, fun i i1 i2 => Or.inl (q2 i i1 i2)⟩
theorem the_in {T : Int → Int} {V : sS} {p e x y : Int} (h : THE T V p e x y) : p < e ∧ ∀ i : Int, p ≤ i → i < e → LSE (T i) := by
  obtain ⟨so, ta, tr, t, _, _⟩ := h
  exact th3_in t
theorem whe_in {T : Int → Int} {V : sS} {p e r now : Int} (h : WHE T V p e r) : p < e ∧ ∀ i : Int, p ≤ i → i < e → ¬ ETR (T i) now := by
  rcases h with ⟨h1, h2⟩ | ⟨_, _, h3, _⟩
  · exact ⟨by omega, fun i i1 i2 => by rw [show i = p by omega]; unfold ETR; omega⟩
  · exact ⟨h3.1, fun i i1 i2 => by rw [h3.2.1 i i1 i2]; unfold ETR; omega⟩
theorem twe_in {T : Int → Int} {V : sS} {now p e n0 f n w r : Int} (h : TWE T V now p e n0 f n w r) : p < e ∧ ∀ i : Int, p ≤ i → i < e → ¬ ETR (T i) now := by
  rcases h with ⟨_, h1, h2, _, h3, h4, _⟩ | ⟨_, _, b, hb, hw, hh⟩
  · refine ⟨by omega, fun i i1 i2 => ?_⟩
    rcases (by omega : i = p ∨ i = p + 1 ∨ i = p + 2) with w | w | w <;> rw [w] <;> unfold ETR <;> omega
  · obtain ⟨k1, k2⟩ := whe_in (now := now) hh
    rcases hb with ⟨b1, b2, _, b4⟩ | ⟨_, _, b4⟩
    · refine ⟨by omega, fun i i1 i2 => ?_⟩
      by_cases v : i = p
      · rw [v]; unfold ETR; omega
      · exact k2 i (by omega) i2
    · exact ⟨by omega, fun i i1 i2 => k2 i (by omega) i2⟩
theorem ple_in {T : Int → Int} {p e w now : Int} (h : PLE T p e w) : p < e ∧ ∀ i : Int, p ≤ i → i < e → ¬ ETR (T i) now := by
  rcases h with ⟨a, _, b⟩ | ⟨a, _, b⟩ | ⟨a, c, _, b⟩ | ⟨a, c, _, b⟩ | ⟨a, c, _, b⟩
  · exact ⟨by omega, fun i i1 i2 => by rw [show i = p by omega]; unfold ETR; omega⟩
  · exact ⟨by omega, fun i i1 i2 => by rw [show i = p by omega]; unfold ETR; omega⟩
  all_goals
    refine ⟨by omega, fun i i1 i2 => ?_⟩
    rcases (by omega : i = p ∨ i = p + 1) with w | w <;> rw [w] <;> unfold ETR <;> omega
theorem pre_in {T : Int → Int} {V : sS} {p e x now : Int} (h : PRE T V p e x) : p < e ∧ ∀ i : Int, p ≤ i → i < e → ¬ ETR (T i) now ∧ T i ≠ 104 := by
  obtain ⟨q, h1, h2, h3, h4, _⟩ := h
  have := h2.1
  refine ⟨by omega, fun i i1 i2 => ?_⟩
  by_cases v : i = p
  · rw [v]; unfold ETR; omega
  · by_cases w : i = q
    · rw [w]; unfold ETR; omega
    · rw [h2.2.1 i (by omega) (by omega)]; unfold ETR; omega
/-- nothing within a test ends it -/
theorem ts_in {T : Int → Int} {V : sS} {c : Nat} {p e now : Int} (h : TSTR T V c p e now) : p < e ∧ ∀ i : Int, p ≤ i → i < e → ¬ ETR (T i) now := by
  obtain ⟨_, _, _, b⟩ := h
  rcases b with ⟨_, _, _, h1, h2⟩ | ⟨_, _, q, r, k1, k2, k3, k4⟩ | ⟨_, _, r, g, k1, k2, k3, k4⟩
  · exact ⟨h1, fun i i1 i2 => (lse_n (h2 i i1 i2)).1⟩
  · obtain ⟨a1, a2⟩ := pre_in (now := now) k1
    obtain ⟨b1, b2⟩ := the_in k2
    obtain ⟨c1, c2⟩ := twe_in k4
    refine ⟨by omega, fun i i1 i2 => ?_⟩
    by_cases x1 : i < q
    · exact (a2 i i1 x1).1
    by_cases x2 : i < r
    · exact (lse_n (b2 i (by omega) x2)).1
    by_cases x3 : i = r
    · rw [x3]; unfold ETR; omega
    · exact c2 i (by omega) i2
  · obtain ⟨b1, b2⟩ := the_in k1
    have fin : g < e ∧ ∀ i : Int, g ≤ i → i < e → ¬ ETR (T i) now := by
      rcases k4 with ⟨_, _, q, _⟩ | ⟨_, _, _, o, q1, q2⟩
      · exact ⟨q.1, fun i i1 i2 => by rw [q.2.1 i i1 i2]; unfold ETR; omega⟩
      · obtain ⟨d1, d2⟩ := ple_in (now := now) q1
        obtain ⟨d3, d4⟩ := the_in q2
        refine ⟨by omega, fun i i1 i2 => ?_⟩
        by_cases x : i < o
        · exact d2 i i1 x
        · exact (lse_n (d4 i (by omega) i2)).1
    refine ⟨by omega, fun i i1 i2 => ?_⟩
    by_cases x2 : i < r
    · exact (lse_n (b2 i (by omega) x2)).1
    by_cases x3 : i = r
    · rw [x3]; unfold ETR; omega
    by_cases x4 : i < g
    · have : i = r + 1 := by omega
      rw [this]
      rcases k3 with ⟨w, _, _⟩ | ⟨_, _, w⟩
      · rw [w]; unfold ETR; omega
      · omega
    · exact fin.2 i (by omega) i2
theorem etr_r {U S : sS} {f : Nat} {i now : Int} (sc : SCX U S f) (tb : ∀ i : Int, 0 ≤ ty7 U i ∧ ty7 U i ≤ 108) (h : 0 ≤ i ∧ i < Xi U 876 7) : ETR (tkR S (f + i)) now ↔ et7 now (ty7 U i) := by
  rw [tkx sc h]
  have t := tb i
  unfold ETR et7 tr7
  by_cases q : ty7 U i < 100
  · rw [if_pos q]; omega
  · rw [if_neg q]
    have e : ty7 U i = 100 ∨ ty7 U i = 101 ∨ ty7 U i = 102 ∨ ty7 U i = 103 ∨ ty7 U i = 104 ∨ ty7 U i = 105 ∨ ty7 U i = 106 ∨ ty7 U i = 107 ∨ ty7 U i = 108 := by omega
    rcases e with e | e | e | e | e | e | e | e | e <;> (rw [e]; simp)
theorem te8_u {T : Int → Int} {now b : Int} (q : et7 now (T b)) : ∀ (m : Nat) (n : Nat) (a : Int), a + m = b → m < n → (∀ i : Int, a ≤ i → i < b → ¬ et7 now (T i)) → te8F T now n a = b
  | 0, n, a, h1, h2, _ => by
    obtain ⟨n', rfl⟩ : ∃ n', n = n' + 1 := ⟨n - 1, by omega⟩
    have : a = b := by omega
    subst this
    rw [te8F, if_pos q]
  | m + 1, n, a, h1, h2, k => by
    obtain ⟨n', rfl⟩ : ∃ n', n = n' + 1 := ⟨n - 1, by omega⟩
    rw [te8F, if_neg (k a (by omega) (by omega))]
    exact te8_u q m n' (a + 1) (by omega) (by omega) (fun i i1 i2 => k i (by omega) i2)
/-- both find the same end of a test -/
theorem te_r {U S V : sS} {f c : Nat} {a b now : Int} (sc : SCX U S f) (tb : ∀ i : Int, 0 ≤ ty7 U i ∧ ty7 U i ≤ 108) (h0 : 0 ≤ a) (hb : b < Xi U 876 7) (t : TSTR (tkR S) V c (f + a) (f + b) now) : a < b ∧ te8 (ty7 U) now a = b ∧ et7 now (ty7 U b) := by
  have n5 := sc.2
  obtain ⟨k1, k2⟩ := ts_in t
  have e := (etr_r (now := now) sc tb ⟨by omega, hb⟩).1 t.2.2.1
  refine ⟨by omega, ?_, e⟩
  exact te8_u e (b - a).toNat 5141 a (by omega) (by omega) (fun i i1 i2 w => k2 (f + i) (by omega) (by omega) ((etr_r sc tb ⟨by omega, by omega⟩).2 w))
theorem fo7_y {T : Int → Int} {k b i : Int} (h : T i = k) : ∀ (m : Nat) (a : Int), a + m = i → i < b → (∀ j : Int, a ≤ j → j < i → T j ≠ k) → fo7 T k a b = i
  | 0, a, h1, h2, _ => by
    have : a = i := by omega
    subst this
    unfold fo7
    rw [show (b - a).toNat = (b - a - 1).toNat + 1 by omega, fo7F, if_pos h]
  | m + 1, a, h1, h2, q => by
    have ih := fo7_y (b := b) h m (a + 1) (by omega) h2 (fun j j1 j2 => q j (by omega) j2)
    unfold fo7 at ih ⊢
    rw [show (b - a).toNat = (b - (a + 1)).toNat + 1 by omega, fo7F, if_neg (q a (by omega) (by omega))]
    exact ih
theorem fo7_n {T : Int → Int} {k b : Int} : ∀ (m : Nat) (a : Int), a + m = b → (∀ j : Int, a ≤ j → j < b → T j ≠ k) → fo7 T k a b = -1
  | 0, a, h1, _ => by unfold fo7; rw [show (b - a).toNat = 0 by omega]; rfl
  | m + 1, a, h1, q => by
    have ih := fo7_n (T := T) (k := k) (b := b) m (a + 1) (by omega) (fun j j1 j2 => q j (by omega) j2)
    unfold fo7 at ih ⊢
    rw [show (b - a).toNat = (b - (a + 1)).toNat + 1 by omega, fo7F, if_neg (q a (by omega) (by omega))]
    exact ih
theorem re_sp {T : Int → Int} : ∀ (n : Nat) (r : Int), r ≤ reF T n r ∧ ∀ j : Int, r ≤ j → j < reF T n r → T j = 100
  | 0, r => ⟨Int.le_refl _, fun j j1 j2 => absurd j2 (by show ¬ j < r; omega)⟩
  | n + 1, r => by
    rw [reF]
    by_cases q : T r = 100
    · rw [if_pos q]
      obtain ⟨i1, i2⟩ := re_sp (T := T) n (r + 1)
      refine ⟨by omega, fun j j1 j2 => ?_⟩
      by_cases w : j = r
      · rw [w]; exact q
      · exact i2 j (by omega) j2
    · rw [if_neg q]; exact ⟨Int.le_refl _, fun j j1 j2 => by omega⟩
/-- the RUN of, in both -/
theorem bof_r {U S : sS} {f : Nat} {a : Int} (sc : SCX U S f) (tb : ∀ i : Int, 0 ≤ ty7 U i ∧ ty7 U i ≤ 108) (h0 : 0 ≤ a) (b : bpP U a) : BOF (tkR S) (f + a) := by
  obtain ⟨b1, b2, b3⟩ := b
  have rows : ∀ i : Int, 0 ≤ i → ty7 U i ≠ 107 → i < Xi U 876 7 := fun i i0 w => by
    apply Classical.byContradiction
    intro y
    apply w
    unfold ty7
    rw [if_neg (fun z => y z.2)]
  obtain ⟨r1, r2⟩ := re_sp (T := ty7 U) 5131 (a + 1)
  have r1 : a + 1 ≤ re7 (ty7 U) (a + 1) := r1
  have r2 : ∀ j : Int, a + 1 ≤ j → j < re7 (ty7 U) (a + 1) → ty7 U j = 100 := r2
  have ne : re7 (ty7 U) (a + 1) ≠ a + 1 := fun w => by rw [w] at b3; omega
  have rq := rows (re7 (ty7 U) (a + 1)) (by omega) (by omega)
  have ra := rows a h0 (by omega)
  refine ⟨by rw [tkx sc ⟨h0, ra⟩]; exact (tr_key (tb a) (by omega)).2 (by omega), f + re7 (ty7 U) (a + 1), ⟨by omega, fun i i1 i2 => ?_, ?_⟩, ?_⟩
  · obtain ⟨x, rfl⟩ : ∃ x : Int, i = f + x := ⟨i - f, by omega⟩
    rw [tkx sc ⟨by omega, by omega⟩]
    exact (tr_k (tb x)).1.2 (r2 x (by omega) (by omega))
  · rw [tkx sc ⟨by omega, rq⟩]
    exact fun w => by have := (tr_k (tb _)).1.1 w; omega
  · rw [tkx sc ⟨by omega, rq⟩]
    exact (tr_key (tb _) (by omega)).2 (by omega)
end
