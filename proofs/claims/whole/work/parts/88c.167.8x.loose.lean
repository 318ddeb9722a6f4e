section
/-! 20: the class relates: lists of objects -/
def ioW (S : sS) (b k : Int) : Nat → Int → Option Int
  | 0, _ => none
  | n + 1, i =>
    if b ≤ i then some 0
    else if fnd S 2 (bA (ty7 S) i) (ruF S (bA (ty7 S) i) b) = -1 ∨ isK S (Xi S 21 (fnd S 2 (bA (ty7 S) i) (ruF S (bA (ty7 S) i) b)).toNat) k = 0 then some 0
    else if ruF S (bA (ty7 S) i) b = b then some 1
    else if ty7 S (ruF S (bA (ty7 S) i) b) = 104 then
      (if ty7 S (ruF S (bA (ty7 S) i) b + 1) = 16 then ioW S b k n (ruF S (bA (ty7 S) i) b + 2) else ioW S b k n (ruF S (bA (ty7 S) i) b + 1))
    else if ty7 S (ruF S (bA (ty7 S) i) b) = 16 then ioW S b k n (ruF S (bA (ty7 S) i) b + 1)
    else some 0
def ioV (S : sS) (a b k : Int) : Int := (ioW S b k 6000 a).getD 0
theorem io_up {S : sS} {b k : Int} : ∀ (n : Nat) (i z : Int), ioW S b k n i = some z → ioW S b k (n + 1) i = some z
  | 0, i, z, h => by cases h
  | n + 1, i, z, h => by
    rw [ioW] at h
    rw [ioW]
    split at h
    · rw [if_pos (by assumption)]; exact h
    rw [if_neg (by assumption)]
    split at h
    · rw [if_pos (by assumption)]; exact h
    rw [if_neg (by assumption)]
    split at h
    · rw [if_pos (by assumption)]; exact h
    rw [if_neg (by assumption)]
    split at h
    · rw [if_pos (by assumption)]
      split at h
      · rw [if_pos (by assumption)]; exact io_up n _ z h
      · rw [if_neg (by assumption)]; exact io_up n _ z h
    rw [if_neg (by assumption)]
    split at h
    · rw [if_pos (by assumption)]; exact io_up n _ z h
    · rw [if_neg (by assumption)]; exact h
theorem io_ups {S : sS} {b k i z : Int} {n : Nat} (h : ioW S b k n i = some z) : ∀ m : Nat, ioW S b k (n + m) i = some z
  | 0 => h
  | m + 1 => io_up (n + m) i z (io_ups h m)
theorem io_le {S : sS} {b k i z y : Int} {n m : Nat} (h : ioW S b k n i = some z) (q : ioW S b k m i = some y) : z = y := by
  have t := io_ups h m
  have u := io_ups q n
  rw [Nat.add_comm m n, t] at u
  injection u
theorem fnd_lt {S : sS} {s a b : Int} (hs : 0 ≤ s) (h : fnd S s a b ≠ -1) : a < b := by
  by_cases q : 1 ≤ b - a
  · omega
  · exact absurd (by have w : mnV S a b = -1 := by unfold mnV; rw [if_neg (by omega)]
                     unfold fnd; rw [w, if_neg (by omega)]) h
theorem bA_b {T : Int → Int} {i : Int} : i ≤ bA T i := by unfold bA; split <;> omega
theorem io_end {S : sS} {b k : Int} : ∀ (n : Nat) (i : Int), (b - i).toNat < n → ∃ z, ioW S b k n i = some z
  | 0, i, h => absurd h (Nat.not_lt_zero _)
  | n + 1, i, h => by
    rw [ioW]
    split
    · exact ⟨0, rfl⟩
    split
    · exact ⟨0, rfl⟩
    rename_i q1 q2
    have l := fnd_lt (S := S) (s := 2) (a := bA (ty7 S) i) (b := ruF S (bA (ty7 S) i) b) (by omega) (fun q => q2 (Or.inl q))
    have l2 := bA_b (T := ty7 S) (i := i)
    split
    · exact ⟨1, rfl⟩
    split
    · split
      · exact io_end n _ (by omega)
      · exact io_end n _ (by omega)
    split
    · exact io_end n _ (by omega)
    · exact ⟨0, rfl⟩
theorem io_V {S : sS} {a b k z : Int} {n : Nat} (h : ioW S b k n a = some z) (hb : (b - a).toNat < 6000) : z = ioV S a b k := by
  obtain ⟨y, e⟩ := io_end (S := S) (b := b) (k := k) 6000 a hb
  unfold ioV
  rw [e]
  exact io_le h e
def IOC (S : sS) (b k a i : Int) : Prop := ∀ (n : Nat) (z : Int), ioW S b k n i = some z → ∃ m, ioW S b k m a = some z
theorem ioc_0 {S : sS} {b k a : Int} : IOC S b k a a := fun n _ h => ⟨n, h⟩
theorem ioc_v {S : sS} {b k a i z : Int} (c : IOC S b k a i) (hb : (b - a).toNat < 6000) (h : ioW S b k 1 i = some z) : z = ioV S a b k := by
  obtain ⟨m, e⟩ := c 1 z h
  exact io_V e hb
theorem io_n1 {S : sS} {b k i i1 e o : Int} (h0 : i < b) (h1 : i1 = bA (ty7 S) i) (h2 : e = ruF S i1 b) (h3 : o = fnd S 2 i1 e) (q : o = -1 ∨ isK S (Xi S 21 o.toNat) k = 0) : ioW S b k 1 i = some 0 := by
  rw [ioW, if_neg (by omega), ← h1, ← h2, ← h3, if_pos q]
theorem io_y1 {S : sS} {b k i i1 e o : Int} (h0 : i < b) (h1 : i1 = bA (ty7 S) i) (h2 : e = ruF S i1 b) (h3 : o = fnd S 2 i1 e) (q : ¬ (o = -1 ∨ isK S (Xi S 21 o.toNat) k = 0)) (q2 : e = b) : ioW S b k 1 i = some 1 := by
  rw [ioW, if_neg (by omega), ← h1, ← h2, ← h3, if_neg q, if_pos q2]
theorem io_x1 {S : sS} {b k i i1 e o : Int} (h0 : i < b) (h1 : i1 = bA (ty7 S) i) (h2 : e = ruF S i1 b) (h3 : o = fnd S 2 i1 e) (q : ¬ (o = -1 ∨ isK S (Xi S 21 o.toNat) k = 0)) (q2 : e ≠ b) (q3 : ty7 S e ≠ 104) (q4 : ty7 S e ≠ 16) : ioW S b k 1 i = some 0 := by
  rw [ioW, if_neg (by omega), ← h1, ← h2, ← h3, if_neg q, if_neg q2, if_neg q3, if_neg q4]
theorem io_s2 {S : sS} {b k a i i1 e o : Int} (h0 : i < b) (c : IOC S b k a i) (h1 : i1 = bA (ty7 S) i) (h2 : e = ruF S i1 b) (h3 : o = fnd S 2 i1 e) (q : ¬ (o = -1 ∨ isK S (Xi S 21 o.toNat) k = 0)) (q2 : e ≠ b) (q3 : ty7 S e = 104) (q4 : ty7 S (e + 1) = 16) : IOC S b k a (e + 2) := fun n z w =>
  c (n + 1) z (by rw [ioW, if_neg (by omega), ← h1, ← h2, ← h3, if_neg q, if_neg q2, if_pos q3, if_pos q4]; exact w)
theorem io_s1 {S : sS} {b k a i i1 e o : Int} (h0 : i < b) (c : IOC S b k a i) (h1 : i1 = bA (ty7 S) i) (h2 : e = ruF S i1 b) (h3 : o = fnd S 2 i1 e) (q : ¬ (o = -1 ∨ isK S (Xi S 21 o.toNat) k = 0)) (q2 : e ≠ b) (q3 : ty7 S e = 104 ∨ ty7 S e = 16) (q4 : ty7 S e = 104 → ty7 S (e + 1) ≠ 16) : IOC S b k a (e + 1) := fun n z w =>
  c (n + 1) z (by
    rw [ioW, if_neg (by omega), ← h1, ← h2, ← h3, if_neg q, if_neg q2]
    by_cases w3 : ty7 S e = 104
    · rw [if_pos w3, if_neg (q4 w3)]; exact w
    · rw [if_neg w3, if_pos (by omega)]; exact w)
/-! relations of the class -/
def bz7 (r b : Int) : Prop := iandF r (ixorF (ishlF 1 b) (-1)) = 0
def okT (S : sS) (rl a b : Int) : Prop := (Xi S 17 rl.toNat = 0 ∨ bz7 (Xi S (189 + rl.toNat) a.toNat) b) ∧ (Xi S 16 rl.toNat = 0 ∨ ∀ x : Nat, x < 24 → (x : Int) ≠ a → relF S rl x b = 0)
def TRT (S S1 : sS) (z rl a b : Int) : Prop :=
  (okT S rl a b → z = 1 ∧ Xi S1 (189 + rl.toNat) a.toNat = iorF (Xi S (189 + rl.toNat) a.toNat) (ishlF 1 b) ∧ ∀ (r x : Nat), r < 6 → (r ≠ rl.toNat ∨ x ≠ a.toNat) → Xi S1 (189 + r) x = Xi S (189 + r) x) ∧ (okT S rl a b → S1 = uI S (189 + rl.toNat) a.toNat (Int32.ofInt (iorF (Xi S (189 + rl.toNat) a.toNat) (ishlF 1 b)))) ∧
  (¬ okT S rl a b → z = 0 ∧ S1 = S)
theorem trt_y {S U : sS} {rl a b : Int} (g : okT S rl a b) (e : U = uI S (189 + rl.toNat) a.toNat (Int32.ofInt (iorF (Xi S (189 + rl.toNat) a.toNat) (ishlF 1 b)))) : TRT S U 1 rl a b :=
  ⟨fun _ => ⟨rfl, by rw [e]; exact Xi_same (by have t := iorF_rg (x := Xi S (189 + rl.toNat) a.toNat) (y := ishlF 1 b); unfold rg; omega), fun r x hr hx => by rw [e]; exact Xi_ne (by omega)⟩, fun _ => e, fun q => absurd g q⟩
theorem trt_n {S : sS} {rl a b : Int} (g : ¬ okT S rl a b) : TRT S S 0 rl a b := ⟨fun q => absurd q g, fun q => absurd q g, fun _ => ⟨rfl, rfl⟩⟩
theorem ty7_F {l : List rec} {S T : sS} (h : FR l S T) (e : (kdis l [(877, 878)] && !(mdf l 876 7)) = true) : ty7 T = ty7 S := by
  simp only [Bool.and_eq_true, Bool.not_eq_true'] at e
  funext i
  unfold ty7
  rw [h.x 876 7 e.2, (h.smk e.1).x 877 rfl]
theorem bgr_F {l : List rec} {S T : sS} (h : FR l S T) (e : (kdis l [(877, 878)] && !(mdf l 876 7)) = true) {r a : Int} : bgr T r a = bgr S r a := by
  simp only [Bool.and_eq_true, Bool.not_eq_true'] at e
  have k := h.smk e.1
  unfold bgr
  rw [h.x 876 7 e.2, k.x 877 rfl, k.x 877 rfl]
def pFo (S : sS) (v i : Int) : Int := if bgr S i 0 = 1 then fnd S 2 i (ruF S i v) else -1
def pTo (S : sS) (v j : Int) : Int := if bgr S j (v + 1) = 1 then fnd S 2 j (re7 (ty7 S) j) else -1
def RIN (S : sS) (rl a v : Int) : Nat → sS → sS → Prop
  | 0, U, V => V = U
  | n + 1, U, V => ∃ W, RIN S rl a v n U W ∧ ((pTo S v (v + 1 + n) = -1 ∧ V = W) ∨ (pTo S v (v + 1 + n) ≠ -1 ∧ TRT W V 1 rl a (pTo S v (v + 1 + n))))
def ROU (S : sS) (rl v l : Int) : Nat → sS → sS → Prop
  | 0, U, V => V = U
  | n + 1, U, V => ∃ W, ROU S rl v l n U W ∧ ((pFo S v n = -1 ∧ V = W) ∨ (pFo S v n ≠ -1 ∧ RIN S rl (pFo S v n) v (l - v - 1).toNat W V))
def RAL (S S1 : sS) (z rl v l : Int) : Prop :=
  (z = 1 → ROU S rl v l v.toNat S S1) ∧
  (z = 0 → ∃ (i j : Nat) (U W : sS), (i : Int) < v ∧ (j : Int) < l - v - 1 ∧ ROU S rl v l i S U ∧ pFo S v i ≠ -1 ∧ RIN S rl (pFo S v i) v j U W ∧ pTo S v (v + 1 + j) ≠ -1 ∧ ¬ okT W rl (pFo S v i) (pTo S v (v + 1 + j)))
theorem pFo_y {S : sS} {v i b e o : Int} (hb : b = bgr S i 0) (h1 : b ≠ 0) (he : e = ruF S i v) (ho : o = fnd S 2 i e) : o = pFo S v i := by
  unfold pFo
  have : bgr S i 0 = 1 := by have u : bgr S i 0 = 0 ∨ bgr S i 0 = 1 := by { unfold bgr; split <;> omega }; omega
  rw [if_pos this, ho, he]
theorem pFo_n {S : sS} {v i b : Int} (hb : b = bgr S i 0) (h1 : b = 0) : -1 = pFo S v i := by
  unfold pFo
  rw [if_neg (by omega)]
theorem pTo_y {S : sS} {v i b e o : Int} (hb : b = bgr S i (v + 1)) (h1 : b ≠ 0) (he : re7 (ty7 S) i = e) (ho : o = fnd S 2 i e) : o = pTo S v i := by
  unfold pTo
  have : bgr S i (v + 1) = 1 := by have u : bgr S i (v + 1) = 0 ∨ bgr S i (v + 1) = 1 := by { unfold bgr; split <;> omega }; omega
  rw [if_pos this, ho, he]
theorem pTo_n {S : sS} {v i b : Int} (hb : b = bgr S i (v + 1)) (h1 : b = 0) : -1 = pTo S v i := by
  unfold pTo
  rw [if_neg (by omega)]
theorem pFo_b {S : sS} {v i : Int} (w : WH2 S) (h : CEN S) (q : pFo S v i ≠ -1) : 0 ≤ pFo S v i ∧ pFo S v i < Xi S 5 2 := by
  unfold pFo at q ⊢
  by_cases c : bgr S i 0 = 1
  · rw [if_pos c] at q ⊢; exact fnd_w2 w h q
  · rw [if_neg c] at q; exact absurd rfl q
theorem pTo_b {S : sS} {v i : Int} (w : WH2 S) (h : CEN S) (q : pTo S v i ≠ -1) : 0 ≤ pTo S v i ∧ pTo S v i < Xi S 5 2 := by
  unfold pTo at q ⊢
  by_cases c : bgr S i (v + 1) = 1
  · rw [if_pos c] at q ⊢; exact fnd_w2 w h q
  · rw [if_neg c] at q; exact absurd rfl q
def RIO (S : sS) (rl v l i j a : Int) (T : sS) : Prop := a = pFo S v i ∧ ∃ W, ROU S rl v l i.toNat S W ∧ RIN S rl a v (j - v - 1).toNat W T
theorem rio_0 {S T : sS} {rl v l i a : Int} (h : ROU S rl v l i.toNat S T) (e : a = pFo S v i) : RIO S rl v l i (v + 1) a T := ⟨e, T, h, by rw [show (v + 1 - v - 1).toNat = 0 by omega]; rfl⟩
theorem rio_n {S T : sS} {rl v l i j a : Int} (h : RIO S rl v l i j a T) (hj : v + 1 ≤ j) (q : pTo S v j = -1) : RIO S rl v l i (j + 1) a T := by
  obtain ⟨e, W, o, r⟩ := h
  refine ⟨e, W, o, ?_⟩
  rw [show (j + 1 - v - 1).toNat = (j - v - 1).toNat + 1 by omega]
  exact ⟨T, r, Or.inl ⟨by rw [show v + 1 + ((j - v - 1).toNat : Int) = j by omega]; exact q, rfl⟩⟩
theorem rio_y {S T V : sS} {rl v l i j a t z : Int} (h : RIO S rl v l i j a T) (hj : v + 1 ≤ j) (e : t = pTo S v j) (q : t ≠ -1) (k : TRT T V z rl a t) (hz : z = 1) : RIO S rl v l i (j + 1) a V := by
  subst hz
  obtain ⟨e1, W, o, r⟩ := h
  refine ⟨e1, W, o, ?_⟩
  rw [show (j + 1 - v - 1).toNat = (j - v - 1).toNat + 1 by omega]
  exact ⟨T, r, Or.inr (by rw [show v + 1 + ((j - v - 1).toNat : Int) = j by omega, ← e]; exact ⟨q, k⟩)⟩
theorem rou_y {S T : sS} {rl v l i a : Int} (hi : 0 ≤ i) (h : RIO S rl v l i l a T) (q : a ≠ -1) : ROU S rl v l (i + 1).toNat S T := by
  obtain ⟨e, W, o, r⟩ := h
  rw [show (i + 1).toNat = i.toNat + 1 by omega]
  refine ⟨W, o, Or.inr ?_⟩
  rw [show ((i.toNat : Nat) : Int) = i by omega, ← e]
  exact ⟨q, r⟩
theorem rou_n {S T : sS} {rl v l i j a : Int} (hi : 0 ≤ i) (h : RIO S rl v l i j a T) (q : a = -1) (hj : j = v + 1) : ROU S rl v l (i + 1).toNat S T := by
  obtain ⟨e, W, o, r⟩ := h
  subst hj
  rw [show (v + 1 - v - 1).toNat = 0 by omega] at r
  rw [show (i + 1).toNat = i.toNat + 1 by omega]
  refine ⟨W, o, Or.inl ?_⟩
  rw [show ((i.toNat : Nat) : Int) = i by omega, ← e]
  exact ⟨q, r⟩
theorem ral_0 {S T V : sS} {rl v l i j a t z : Int} (h : RIO S rl v l i j a T) (hi : 0 ≤ i ∧ i < v) (hj : v + 1 ≤ j ∧ j < l) (qa : a ≠ -1) (e : t = pTo S v j) (q : t ≠ -1) (k : TRT T V z rl a t) (hz : z = 0) : RAL S V 0 rl v l := by
  obtain ⟨e1, W, o, r⟩ := h
  refine ⟨fun w => absurd w (by omega), fun _ => ⟨i.toNat, (j - v - 1).toNat, W, T, by omega, by omega, o, ?_⟩⟩
  rw [show v + 1 + ((j - v - 1).toNat : Int) = j by omega, show ((i.toNat : Nat) : Int) = i by omega, ← e, ← e1]
  exact ⟨qa, r, q, fun c => by have u := (k.1 c).1; omega⟩
/-! 20: the class tells -/
def fl7 (T : Int → Int) : Nat → Int
  | 0 => 0
  | n + 1 => if fl7 T n ≠ 0 ∨ T n = 16 ∨ T n = 104 then 1 else 0
def vbL (S : sS) (n : Nat) : Int := if ty7 S n = 100 then fnd S (if fl7 (ty7 S) (n + 1) ≠ 0 then 7 else 13) n (n + 1) else -1
def qvL (S : sS) (l : Int) (n : Nat) : Prop := vbL S n ≠ -1 ∧ ioV S 0 n (Xi S 14 (Xi S 18 (vbL S n).toNat).toNat) ≠ 0 ∧ ioV S (n + 1) l (Xi S 15 (Xi S 18 (vbL S n).toNat).toNat) ≠ 0
noncomputable def cnL (S : sS) (l : Int) : Nat → Int
  | 0 => 0
  | n + 1 => @ite Int (qvL S l n) (Classical.propDecidable _) (cnL S l n + 1) (cnL S l n)
noncomputable def psL (S : sS) (l : Int) : Nat → Int
  | 0 => -1
  | n + 1 => @ite Int (qvL S l n) (Classical.propDecidable _) n (psL S l n)
theorem vb_y {S : sS} {n f s z : Int} (h0 : 0 ≤ n) (ht : ty7 S n = 100) (hf : f = fl7 (ty7 S) (n + 1).toNat) (hz : z = fnd S s n (n + 1)) (hs : (f ≠ 0 ∧ s = 7) ∨ (f = 0 ∧ s = 13)) : z = vbL S n.toNat := by
  unfold vbL
  rw [show ((n.toNat : Nat) : Int) = n by omega, if_pos ht, show n.toNat + 1 = (n + 1).toNat by omega, ← hf]
  rcases hs with h | h
  · rw [if_pos h.1, hz, h.2]
  · rw [if_neg (by omega), hz, h.2]
theorem vb_n {S : sS} {n : Int} (h0 : 0 ≤ n) (ht : ty7 S n ≠ 100) : -1 = vbL S n.toNat := by
  unfold vbL
  rw [show ((n.toNat : Nat) : Int) = n by omega, if_neg ht]
def LIN (S : sS) (l n c p r : Int) : Prop := c = cnL S l n.toNat ∧ p = psL S l n.toNat ∧ (p = -1 → c = 0) ∧ (p ≠ -1 → 0 ≤ p ∧ p < n ∧ qvL S l p.toNat ∧ r = Xi S 18 (vbL S p.toNat).toNat) ∧ 0 ≤ c ∧ c ≤ n
theorem lin_0 {S : sS} {l r : Int} : LIN S l 0 0 (-1) r := ⟨rfl, rfl, fun _ => rfl, fun q => absurd rfl q, by omega, by omega⟩
theorem lin_n {S : sS} {l n c p r : Int} (h : LIN S l n c p r) (h0 : 0 ≤ n) (q : ¬ qvL S l n.toNat) : LIN S l (n + 1) c p r := by
  obtain ⟨a, b, d, e, f, g⟩ := h
  rw [LIN, show (n + 1).toNat = n.toNat + 1 by omega]
  refine ⟨by rw [cnL, if_neg q]; exact a, by rw [psL, if_neg q]; exact b, d, fun w => ?_, f, by omega⟩
  have u := e w
  exact ⟨u.1, by omega, u.2.2⟩
theorem lin_y {S : sS} {l n c p r v x y : Int} (h : LIN S l n c p r) (h0 : 0 ≤ n) (hv : v = vbL S n.toNat) (h1 : v ≠ -1) (hx : x = ioV S 0 n (Xi S 14 (Xi S 18 v.toNat).toNat)) (h2 : x ≠ 0) (hy : y = ioV S (n + 1) l (Xi S 15 (Xi S 18 v.toNat).toNat)) (h3 : y ≠ 0) : LIN S l (n + 1) (c + 1) n (Xi S 18 v.toNat) := by
  obtain ⟨a, b, d, e, f, g⟩ := h
  have q : qvL S l n.toNat := ⟨by rw [← hv]; exact h1, by rw [← hv, show ((n.toNat : Nat) : Int) = n by omega, ← hx]; exact h2, by rw [← hv, show ((n.toNat : Nat) : Int) = n by omega, ← hy]; exact h3⟩
  rw [LIN, show (n + 1).toNat = n.toNat + 1 by omega]
  refine ⟨by rw [cnL, if_pos q, a], by rw [psL, if_pos q]; omega, fun w => by omega, fun w => ⟨h0, by omega, q, by rw [hv]⟩, by omega, by omega⟩
def LI1 (S : sS) (l p r : Int) : Prop := cnL S l l.toNat = 1 ∧ p = psL S l l.toNat ∧ qvL S l p.toNat ∧ r = Xi S 18 (vbL S p.toNat).toNat
theorem lin_1 {S : sS} {l n c p r : Int} (h : LIN S l n c p r) (hc : n = l ∧ c = 1) (hv : ∀ n : Nat, vbL S n ≠ -1 → 0 ≤ Xi S 18 (vbL S n).toNat ∧ Xi S 18 (vbL S n).toNat ≤ 5) : (0 ≤ p ∧ p < l ∧ 0 ≤ r ∧ r ≤ 5) ∧ LI1 S l p r := by
  obtain ⟨a, b, d, e, f, g⟩ := h
  have hp : p ≠ -1 := fun w => by have := d w; omega
  have u := e hp
  have k := hv p.toNat u.2.2.1.1
  rw [← u.2.2.2] at k
  rw [hc.1] at a b
  exact ⟨⟨u.1, by omega, k.1, k.2⟩, by omega, b, u.2.2⟩
def TLQ (S S1 : sS) (z : Int) : Prop :=
  (cnL S (Xi S 876 7 - 1) (Xi S 876 7 - 1).toNat ≠ 1 → z = 0 ∧ FTO S S1 (if cnL S (Xi S 876 7 - 1) (Xi S 876 7 - 1).toNat = 0 then 4 else 7) 0) ∧
  (cnL S (Xi S 876 7 - 1) (Xi S 876 7 - 1).toNat = 1 → ∃ (p r x : Int) (T : sS), (0 ≤ p ∧ p < Xi S 876 7 - 1 ∧ 0 ≤ r ∧ r ≤ 5) ∧ LI1 S (Xi S 876 7 - 1) p r ∧ RAL S T x r p (Xi S 876 7 - 1) ∧ ((x = 1 ∧ z = 1 ∧ S1 = T) ∨ (x = 0 ∧ z = 0 ∧ FTO S S1 5 0)))
theorem tlo_n {S S1 : sS} {z : Int} (h : cnL S (Xi S 876 7 - 1) (Xi S 876 7 - 1).toNat ≠ 1) (hz : z = 0) (f : FTO S S1 (if cnL S (Xi S 876 7 - 1) (Xi S 876 7 - 1).toNat = 0 then 4 else 7) 0) : TLQ S S1 z := ⟨fun _ => ⟨hz, f⟩, fun q => absurd q h⟩
theorem tlo_t {S S1 : sS} {z p r x l : Int} (a : 0 ≤ p ∧ p < Xi S 876 7 - 1 ∧ 0 ≤ r ∧ r ≤ 5) (b : LI1 S (Xi S 876 7 - 1) p r) (c : RAL S S1 x r p l) (hl : l = Xi S 876 7 - 1 ∧ x = 1) (hz : z = 1) : TLQ S S1 z := ⟨fun q => absurd b.1 q, fun _ => ⟨p, r, x, S1, a, b, by rw [← hl.1]; exact c, Or.inl ⟨hl.2, hz, rfl⟩⟩⟩
theorem tlo_f {S T S1 : sS} {z p r x l : Int} (a : 0 ≤ p ∧ p < Xi S 876 7 - 1 ∧ 0 ≤ r ∧ r ≤ 5) (b : LI1 S (Xi S 876 7 - 1) p r) (c : RAL S T x r p l) (hl : l = Xi S 876 7 - 1 ∧ x = 0) (hz : z = 0) (f : FTO S S1 5 0) : TLQ S S1 z := ⟨fun q => absurd b.1 q, fun _ => ⟨p, r, x, T, a, b, by rw [← hl.1]; exact c, Or.inr ⟨hl.2, hz, f⟩⟩⟩

abbrev Q_re_isObjectList__p (S : sS) (from_ : Int) (to : Int) (kind : Int) : pst := fun r S1 => S = S1 ∧ (∃ z : Int, r = some (iv z) ∧ (0 ≤ z ∧ z ≤ 1) ∧ (z = ioV S from_ to kind))
set_option maxRecDepth 100000 in
theorem t_re_isObjectList__p {S : sS} (hH : RI S) (from_ : Int) (to : Int) (kind : Int) (hfrom_ : 0 ≤ from_ ∧ from_ ≤ 5140) (hto : 0 ≤ to ∧ to ≤ 5130) (hkind : -2147483648 ≤ kind ∧ kind ≤ 2147483647) (h13 : 0 ≤ Xi S 1 3 ∧ Xi S 1 3 ≤ 200) (hCE : CEN S) (hr : Xi S 876 7 ≤ 5130) (d : Nat) : Mp lay0 (d + 3) m_re_isObjectList [.ref 891, iv from_, iv to, iv kind] S (Q_re_isObjectList__p S from_ to kind) := by
  refine Mp_R rfl rfl (fun fu => ?_)
  have w1 : -2147483648 ≤ Xi S 1 3 ∧ Xi S 1 3 ≤ 2147483647 := Xi_rgI
  have w2 : -2147483648 ≤ Xi S 876 7 ∧ Xi S 876 7 ≤ 2147483647 := Xi_rgI
  have C3 : ∀ (n3 : Nat) (_ : n3 ≤ fu) (v4 : Int), (0 ≤ v4 ∧ v4 ≤ 5140) → (0 ≤ v4 ∧ v4 ≤ 5140) → (Hid (IOC S to kind from_ v4)) → Pl n3 lay0 (d + 2) m_re_isObjectList 3 [(0, .ref 891), (2, iv to), (3, iv kind), (4, iv v4)] [] S (Q_re_isObjectList__p S from_ to kind) := by
    intro n3
    induction n3 with
    | zero => intros; exact Pl_0
    | succ n3 ih3 =>
      intro hm3 v4 w3 w4 W3
      refine ys_iload rfl rfl ?_
      refine y_iload_n rfl rfl ?_
      refine y_icmp_ge rfl rfl (by unfold rg; omega) (by unfold rg; omega) (fun w5 => ?_) (fun w6 => ?_)
      · refine y_iconst rfl ?_
        refine y_ireturn rfl rfl ?_
        exact ⟨rfl, _, rfl, ⟨by omega, by omega⟩, (by first | (have u := K74; first | exact ioc_v W3.o (by omega) (io_n1 (by omega) a42 v42 v56 (Or.inr (by rw [← v74]; omega))) | (have q : ¬ (_ = -1 ∨ isK S (Xi S 21 _) kind = 0) := N74; first | exact ioc_v W3.o (by omega) (io_y1 (by omega) a42 v42 v56 N74 (by omega)) | exact ioc_v W3.o (by omega) (io_x1 (by omega) a42 v42 v56 N74 (by omega) (by rw [gq96]; omega) (by rw [gq96]; omega)))) | (have u := K56; exact ioc_v W3.o (by omega) (io_n1 (by omega) a42 v42 v56 (Or.inl (by omega)))) | exact ioc_v W3.o (by omega) (by rw [ioW, if_pos (by omega)]))⟩
      · refine y_aload_n rfl rfl ?_
        refine y_gfr rfl rfl rfl rfl rfl (hH.r 891 0 876 rfl) ?_
        refine y_iload rfl rfl ?_
        refine y_callV rfl rfl rfl (t_to_typeAt__p hH v4 ⟨by omega, by omega⟩ _) ?_
        rintro _ _ ⟨rfl, z9, rfl, w9, w7, w8⟩
        show Pl _ _ _ _ _ _ [iv z9] _ _
        have gq15 := w7
        clear w7
        refine y_callS rfl rfl (by decide) rfl (t_rs_isArt__p hH z9 ⟨by omega, by omega⟩ _) ?_
        rintro _ _ ⟨rfl, z12, rfl, w12, w10, w11⟩
        show Pl _ _ _ _ _ _ [iv z12] _ _
        refine y_if_eq rfl rfl (by unfold rg; omega) (fun w13 => ?_) (fun w14 => ?_)
        · refine y_iload rfl rfl ?_
          refine y_istore rfl rfl rfl ?_
          refine y_aload_n rfl rfl ?_
          refine y_gfr rfl rfl rfl rfl rfl (hH.r 891 0 876 rfl) ?_
          refine y_iload rfl rfl ?_
          refine y_iload_n rfl rfl ?_
          refine y_callV rfl rfl rfl (t_to_runEndUpTo__p hH v4 to ⟨by omega, by omega⟩ ⟨by omega, by omega⟩ _) ?_
          rintro _ _ ⟨rfl, z16, rfl, w16, v42, w15⟩
          show Pl _ _ _ _ _ _ [iv z16] _ _
          have a42 : v4 = bA (ty7 S) v4 := by unfold bA art7; rw [gq15]; first | (rw [if_pos (by omega)]) | (rw [if_neg (by omega)])
          refine y_istore rfl rfl rfl ?_
          refine y_aload_n rfl rfl ?_
          refine y_gfr rfl rfl rfl rfl rfl (hH.r 891 4 895 rfl) ?_
          refine y_iconst rfl ?_
          refine y_iload rfl rfl ?_
          refine y_iload rfl rfl ?_
          refine y_callV rfl rfl rfl (t_me_find__p hH 2 v4 z16 ⟨by omega, by omega⟩ ⟨by omega, by omega⟩ ⟨by omega, by omega⟩ (by first | assumption | omega) (by first | assumption | exact (by assumption : CEN S)) _) ?_
          rintro _ _ ⟨rfl, z17, rfl, w17, v56⟩
          show Pl _ _ _ _ _ _ [iv z17] _ _
          have K56 : True := trivial
          refine y_istore rfl rfl rfl ?_
          refine y_iload rfl rfl ?_
          refine y_iconst rfl ?_
          refine y_icmp_eq rfl rfl (by unfold rg; omega) (by unfold rg; omega) (fun w18 => ?_) (fun w19 => ?_)
          · refine y_iconst rfl ?_
            refine y_ireturn rfl rfl ?_
            exact ⟨rfl, _, rfl, ⟨by omega, by omega⟩, (by first | (have u := K74; first | exact ioc_v W3.o (by omega) (io_n1 (by omega) a42 v42 v56 (Or.inr (by rw [← v74]; omega))) | (have q : ¬ (_ = -1 ∨ isK S (Xi S 21 _) kind = 0) := N74; first | exact ioc_v W3.o (by omega) (io_y1 (by omega) a42 v42 v56 N74 (by omega)) | exact ioc_v W3.o (by omega) (io_x1 (by omega) a42 v42 v56 N74 (by omega) (by rw [gq96]; omega) (by rw [gq96]; omega)))) | (have u := K56; exact ioc_v W3.o (by omega) (io_n1 (by omega) a42 v42 v56 (Or.inl (by omega)))) | exact ioc_v W3.o (by omega) (by rw [ioW, if_pos (by omega)]))⟩
          · refine y_aload_n rfl rfl ?_
            refine y_gfr rfl rfl rfl rfl rfl (hH.r 891 3 20 rfl) ?_
            refine y_iload rfl rfl ?_
            refine y_iload_n rfl rfl ?_
            refine y_callV rfl rfl rfl (t_wo_isA__p hH z17 kind ⟨by omega, by omega⟩ ⟨by omega, by omega⟩ _) ?_
            rintro _ _ ⟨rfl, z20, rfl, w20, v74⟩
            show Pl _ _ _ _ _ _ [iv z20] _ _
            have K74 : True := trivial
            refine y_if_ne rfl rfl (by unfold rg; omega) (fun w21 => ?_) (fun w22 => ?_)
            · refine y_iload rfl rfl ?_
              have N74 : ¬ (z17 = -1 ∨ isK S (Xi S 21 (z17).toNat) kind = 0) := by rw [← v74]; omega
              refine y_iload_n rfl rfl ?_
              refine y_icmp_ne rfl rfl (by unfold rg; omega) (by unfold rg; omega) (fun w23 => ?_) (fun w24 => ?_)
              · refine y_aload_n rfl rfl ?_
                refine y_gfr rfl rfl rfl rfl rfl (hH.r 891 0 876 rfl) ?_
                refine y_iload rfl rfl ?_
                refine y_callV rfl rfl rfl (t_to_typeAt__p hH z16 ⟨by omega, by omega⟩ _) ?_
                rintro _ _ ⟨rfl, z27, rfl, w27, w25, w26⟩
                show Pl _ _ _ _ _ _ [iv z27] _ _
                have gq96 := w25
                clear w25
                refine y_istore rfl rfl rfl ?_
                refine y_iload rfl rfl ?_
                refine y_bipush rfl rfl ?_
                refine y_icmp_eq rfl rfl (by unfold rg; omega) (by unfold rg; omega) (fun w28 => ?_) (fun w29 => ?_)
                · refine y_iload rfl rfl ?_
                  refine y_bipush rfl rfl ?_
                  refine y_icmp_ne rfl rfl (by unfold rg; omega) (by unfold rg; omega) (fun w30 => ?_) (fun w31 => ?_)
                  · refine y_iload rfl rfl ?_
                    refine y_iconst rfl ?_
                    refine y_iadd rfl ?_
                    refine y_istore rfl rfl rfl ?_
                    have W151 : IOC S to kind from_ (z16 + 1) := by first | exact io_s2 (by omega) W3.o a42 v42 v56 N74 (by omega) (by rw [gq96]; omega) (by rw [gq132]; omega) | exact io_s1 (by omega) W3.o a42 v42 v56 N74 (by omega) (by rw [gq96]; omega) (fun q => by first | (rw [gq132]; omega) | (rw [gq96] at q; omega))
                    refine y_goto rfl rfl ?_
                    exact Pl_weak (ih3 (by omega) ((z16 + 1)) (by omega) (by omega) (by first | exact W151 | exact ioc_0)) (by omega) (And.intro rfl (And.intro rfl (And.intro rfl (And.intro rfl (True.intro)))))
                  · refine y_aload_n rfl rfl ?_
                    refine y_gfr rfl rfl rfl rfl rfl (hH.r 891 0 876 rfl) ?_
                    refine y_iload rfl rfl ?_
                    refine y_iconst rfl ?_
                    refine y_iadd rfl ?_
                    refine y_callV rfl rfl rfl (t_to_typeAt__p hH (z16 + 1) ⟨by omega, by omega⟩ _) ?_
                    rintro _ _ ⟨rfl, z34, rfl, w34, w32, w33⟩
                    show Pl _ _ _ _ _ _ [iv z34] _ _
                    have gq132 := w32
                    clear w32
                    refine y_bipush rfl rfl ?_
                    refine y_icmp_ne rfl rfl (by unfold rg; omega) (by unfold rg; omega) (fun w35 => ?_) (fun w36 => ?_)
                    · refine y_iload rfl rfl ?_
                      refine y_iconst rfl ?_
                      refine y_iadd rfl ?_
                      refine y_istore rfl rfl rfl ?_
                      have W151 : IOC S to kind from_ (z16 + 1) := by first | exact io_s2 (by omega) W3.o a42 v42 v56 N74 (by omega) (by rw [gq96]; omega) (by rw [gq132]; omega) | exact io_s1 (by omega) W3.o a42 v42 v56 N74 (by omega) (by rw [gq96]; omega) (fun q => by first | (rw [gq132]; omega) | (rw [gq96] at q; omega))
                      refine y_goto rfl rfl ?_
                      exact Pl_weak (ih3 (by omega) ((z16 + 1)) (by omega) (by omega) (by first | exact W151 | exact ioc_0)) (by omega) (And.intro rfl (And.intro rfl (And.intro rfl (And.intro rfl (True.intro)))))
                    · refine y_iload rfl rfl ?_
                      refine y_iconst rfl ?_
                      refine y_iadd rfl ?_
                      refine y_goto rfl rfl ?_
                      refine y_istore rfl rfl rfl ?_
                      have W151 : IOC S to kind from_ (z16 + 2) := by first | exact io_s2 (by omega) W3.o a42 v42 v56 N74 (by omega) (by rw [gq96]; omega) (by rw [gq132]; omega) | exact io_s1 (by omega) W3.o a42 v42 v56 N74 (by omega) (by rw [gq96]; omega) (fun q => by first | (rw [gq132]; omega) | (rw [gq96] at q; omega))
                      refine y_goto rfl rfl ?_
                      exact Pl_weak (ih3 (by omega) ((z16 + 2)) (by omega) (by omega) (by first | exact W151 | exact ioc_0)) (by omega) (And.intro rfl (And.intro rfl (And.intro rfl (And.intro rfl (True.intro)))))
                · refine y_iload rfl rfl ?_
                  refine y_bipush rfl rfl ?_
                  refine y_icmp_eq rfl rfl (by unfold rg; omega) (by unfold rg; omega) (fun w37 => ?_) (fun w38 => ?_)
                  · refine y_iload rfl rfl ?_
                    refine y_bipush rfl rfl ?_
                    refine y_icmp_ne rfl rfl (by unfold rg; omega) (by unfold rg; omega) (fun w39 => ?_) (fun w40 => ?_)
                    · refine y_iload rfl rfl ?_
                      refine y_iconst rfl ?_
                      refine y_iadd rfl ?_
                      refine y_istore rfl rfl rfl ?_
                      have W151 : IOC S to kind from_ (z16 + 1) := by first | exact io_s2 (by omega) W3.o a42 v42 v56 N74 (by omega) (by rw [gq96]; omega) (by rw [gq132]; omega) | exact io_s1 (by omega) W3.o a42 v42 v56 N74 (by omega) (by rw [gq96]; omega) (fun q => by first | (rw [gq132]; omega) | (rw [gq96] at q; omega))
                      refine y_goto rfl rfl ?_
                      exact Pl_weak (ih3 (by omega) ((z16 + 1)) (by omega) (by omega) (by first | exact W151 | exact ioc_0)) (by omega) (And.intro rfl (And.intro rfl (And.intro rfl (And.intro rfl (True.intro)))))
                    · refine y_aload_n rfl rfl ?_
                      refine y_gfr rfl rfl rfl rfl rfl (hH.r 891 0 876 rfl) ?_
                      refine y_iload rfl rfl ?_
                      refine y_iconst rfl ?_
                      refine y_iadd rfl ?_
                      refine y_callV rfl rfl rfl (t_to_typeAt__p hH (z16 + 1) ⟨by omega, by omega⟩ _) ?_
                      rintro _ _ ⟨rfl, z43, rfl, w43, w41, w42⟩
                      show Pl _ _ _ _ _ _ [iv z43] _ _
                      have gq132 := w41
                      clear w41
                      refine y_bipush rfl rfl ?_
                      refine y_icmp_ne rfl rfl (by unfold rg; omega) (by unfold rg; omega) (fun w44 => ?_) (fun w45 => ?_)
                      · refine y_iload rfl rfl ?_
                        refine y_iconst rfl ?_
                        refine y_iadd rfl ?_
                        refine y_istore rfl rfl rfl ?_
                        have W151 : IOC S to kind from_ (z16 + 1) := by first | exact io_s2 (by omega) W3.o a42 v42 v56 N74 (by omega) (by rw [gq96]; omega) (by rw [gq132]; omega) | exact io_s1 (by omega) W3.o a42 v42 v56 N74 (by omega) (by rw [gq96]; omega) (fun q => by first | (rw [gq132]; omega) | (rw [gq96] at q; omega))
                        refine y_goto rfl rfl ?_
                        exact Pl_weak (ih3 (by omega) ((z16 + 1)) (by omega) (by omega) (by first | exact W151 | exact ioc_0)) (by omega) (And.intro rfl (And.intro rfl (And.intro rfl (And.intro rfl (True.intro)))))
                      · refine y_iload rfl rfl ?_
                        refine y_iconst rfl ?_
                        refine y_iadd rfl ?_
                        refine y_goto rfl rfl ?_
                        refine y_istore rfl rfl rfl ?_
                        have W151 : IOC S to kind from_ (z16 + 2) := by first | exact io_s2 (by omega) W3.o a42 v42 v56 N74 (by omega) (by rw [gq96]; omega) (by rw [gq132]; omega) | exact io_s1 (by omega) W3.o a42 v42 v56 N74 (by omega) (by rw [gq96]; omega) (fun q => by first | (rw [gq132]; omega) | (rw [gq96] at q; omega))
                        refine y_goto rfl rfl ?_
                        exact Pl_weak (ih3 (by omega) ((z16 + 2)) (by omega) (by omega) (by first | exact W151 | exact ioc_0)) (by omega) (And.intro rfl (And.intro rfl (And.intro rfl (And.intro rfl (True.intro)))))
                  · refine y_iconst rfl ?_
                    refine y_ireturn rfl rfl ?_
                    exact ⟨rfl, _, rfl, ⟨by omega, by omega⟩, (by first | (have u := K74; first | exact ioc_v W3.o (by omega) (io_n1 (by omega) a42 v42 v56 (Or.inr (by rw [← v74]; omega))) | (have q : ¬ (_ = -1 ∨ isK S (Xi S 21 _) kind = 0) := N74; first | exact ioc_v W3.o (by omega) (io_y1 (by omega) a42 v42 v56 N74 (by omega)) | exact ioc_v W3.o (by omega) (io_x1 (by omega) a42 v42 v56 N74 (by omega) (by rw [gq96]; omega) (by rw [gq96]; omega)))) | (have u := K56; exact ioc_v W3.o (by omega) (io_n1 (by omega) a42 v42 v56 (Or.inl (by omega)))) | exact ioc_v W3.o (by omega) (by rw [ioW, if_pos (by omega)]))⟩
              · refine y_iconst rfl ?_
                refine y_ireturn rfl rfl ?_
                exact ⟨rfl, _, rfl, ⟨by omega, by omega⟩, (by first | (have u := K74; first | exact ioc_v W3.o (by omega) (io_n1 (by omega) a42 v42 v56 (Or.inr (by rw [← v74]; omega))) | (have q : ¬ (_ = -1 ∨ isK S (Xi S 21 _) kind = 0) := N74; first | exact ioc_v W3.o (by omega) (io_y1 (by omega) a42 v42 v56 N74 (by omega)) | exact ioc_v W3.o (by omega) (io_x1 (by omega) a42 v42 v56 N74 (by omega) (by rw [gq96]; omega) (by rw [gq96]; omega)))) | (have u := K56; exact ioc_v W3.o (by omega) (io_n1 (by omega) a42 v42 v56 (Or.inl (by omega)))) | exact ioc_v W3.o (by omega) (by rw [ioW, if_pos (by omega)]))⟩
            · refine y_iconst rfl ?_
              refine y_ireturn rfl rfl ?_
              exact ⟨rfl, _, rfl, ⟨by omega, by omega⟩, (by first | (have u := K74; first | exact ioc_v W3.o (by omega) (io_n1 (by omega) a42 v42 v56 (Or.inr (by rw [← v74]; omega))) | (have q : ¬ (_ = -1 ∨ isK S (Xi S 21 _) kind = 0) := N74; first | exact ioc_v W3.o (by omega) (io_y1 (by omega) a42 v42 v56 N74 (by omega)) | exact ioc_v W3.o (by omega) (io_x1 (by omega) a42 v42 v56 N74 (by omega) (by rw [gq96]; omega) (by rw [gq96]; omega)))) | (have u := K56; exact ioc_v W3.o (by omega) (io_n1 (by omega) a42 v42 v56 (Or.inl (by omega)))) | exact ioc_v W3.o (by omega) (by rw [ioW, if_pos (by omega)]))⟩
        · refine y_iload rfl rfl ?_
          refine y_iconst rfl ?_
          refine y_iadd rfl ?_
          refine y_goto rfl rfl ?_
          refine y_istore rfl rfl rfl ?_
          refine y_aload_n rfl rfl ?_
          refine y_gfr rfl rfl rfl rfl rfl (hH.r 891 0 876 rfl) ?_
          refine y_iload rfl rfl ?_
          refine y_iload_n rfl rfl ?_
          refine y_callV rfl rfl rfl (t_to_runEndUpTo__p hH (v4 + 1) to ⟨by omega, by omega⟩ ⟨by omega, by omega⟩ _) ?_
          rintro _ _ ⟨rfl, z47, rfl, w47, v42, w46⟩
          show Pl _ _ _ _ _ _ [iv z47] _ _
          have a42 : (v4 + 1) = bA (ty7 S) v4 := by unfold bA art7; rw [gq15]; first | (rw [if_pos (by omega)]) | (rw [if_neg (by omega)])
          refine y_istore rfl rfl rfl ?_
          refine y_aload_n rfl rfl ?_
          refine y_gfr rfl rfl rfl rfl rfl (hH.r 891 4 895 rfl) ?_
          refine y_iconst rfl ?_
          refine y_iload rfl rfl ?_
          refine y_iload rfl rfl ?_
          refine y_callV rfl rfl rfl (t_me_find__p hH 2 (v4 + 1) z47 ⟨by omega, by omega⟩ ⟨by omega, by omega⟩ ⟨by omega, by omega⟩ (by first | assumption | omega) (by first | assumption | exact (by assumption : CEN S)) _) ?_
          rintro _ _ ⟨rfl, z48, rfl, w48, v56⟩
          show Pl _ _ _ _ _ _ [iv z48] _ _
          have K56 : True := trivial
          refine y_istore rfl rfl rfl ?_
          refine y_iload rfl rfl ?_
          refine y_iconst rfl ?_
          refine y_icmp_eq rfl rfl (by unfold rg; omega) (by unfold rg; omega) (fun w49 => ?_) (fun w50 => ?_)
          · refine y_iconst rfl ?_
            refine y_ireturn rfl rfl ?_
            exact ⟨rfl, _, rfl, ⟨by omega, by omega⟩, (by first | (have u := K74; first | exact ioc_v W3.o (by omega) (io_n1 (by omega) a42 v42 v56 (Or.inr (by rw [← v74]; omega))) | (have q : ¬ (_ = -1 ∨ isK S (Xi S 21 _) kind = 0) := N74; first | exact ioc_v W3.o (by omega) (io_y1 (by omega) a42 v42 v56 N74 (by omega)) | exact ioc_v W3.o (by omega) (io_x1 (by omega) a42 v42 v56 N74 (by omega) (by rw [gq96]; omega) (by rw [gq96]; omega)))) | (have u := K56; exact ioc_v W3.o (by omega) (io_n1 (by omega) a42 v42 v56 (Or.inl (by omega)))) | exact ioc_v W3.o (by omega) (by rw [ioW, if_pos (by omega)]))⟩
          · refine y_aload_n rfl rfl ?_
            refine y_gfr rfl rfl rfl rfl rfl (hH.r 891 3 20 rfl) ?_
            refine y_iload rfl rfl ?_
            refine y_iload_n rfl rfl ?_
            refine y_callV rfl rfl rfl (t_wo_isA__p hH z48 kind ⟨by omega, by omega⟩ ⟨by omega, by omega⟩ _) ?_
            rintro _ _ ⟨rfl, z51, rfl, w51, v74⟩
            show Pl _ _ _ _ _ _ [iv z51] _ _
            have K74 : True := trivial
            refine y_if_ne rfl rfl (by unfold rg; omega) (fun w52 => ?_) (fun w53 => ?_)
            · refine y_iload rfl rfl ?_
              have N74 : ¬ (z48 = -1 ∨ isK S (Xi S 21 (z48).toNat) kind = 0) := by rw [← v74]; omega
              refine y_iload_n rfl rfl ?_
              refine y_icmp_ne rfl rfl (by unfold rg; omega) (by unfold rg; omega) (fun w54 => ?_) (fun w55 => ?_)
              · refine y_aload_n rfl rfl ?_
                refine y_gfr rfl rfl rfl rfl rfl (hH.r 891 0 876 rfl) ?_
                refine y_iload rfl rfl ?_
                refine y_callV rfl rfl rfl (t_to_typeAt__p hH z47 ⟨by omega, by omega⟩ _) ?_
                rintro _ _ ⟨rfl, z58, rfl, w58, w56, w57⟩
                show Pl _ _ _ _ _ _ [iv z58] _ _
                have gq96 := w56
                clear w56
                refine y_istore rfl rfl rfl ?_
                refine y_iload rfl rfl ?_
                refine y_bipush rfl rfl ?_
                refine y_icmp_eq rfl rfl (by unfold rg; omega) (by unfold rg; omega) (fun w59 => ?_) (fun w60 => ?_)
                · refine y_iload rfl rfl ?_
                  refine y_bipush rfl rfl ?_
                  refine y_icmp_ne rfl rfl (by unfold rg; omega) (by unfold rg; omega) (fun w61 => ?_) (fun w62 => ?_)
                  · refine y_iload rfl rfl ?_
                    refine y_iconst rfl ?_
                    refine y_iadd rfl ?_
                    refine y_istore rfl rfl rfl ?_
                    have W151 : IOC S to kind from_ (z47 + 1) := by first | exact io_s2 (by omega) W3.o a42 v42 v56 N74 (by omega) (by rw [gq96]; omega) (by rw [gq132]; omega) | exact io_s1 (by omega) W3.o a42 v42 v56 N74 (by omega) (by rw [gq96]; omega) (fun q => by first | (rw [gq132]; omega) | (rw [gq96] at q; omega))
                    refine y_goto rfl rfl ?_
                    exact Pl_weak (ih3 (by omega) ((z47 + 1)) (by omega) (by omega) (by first | exact W151 | exact ioc_0)) (by omega) (And.intro rfl (And.intro rfl (And.intro rfl (And.intro rfl (True.intro)))))
                  · refine y_aload_n rfl rfl ?_
                    refine y_gfr rfl rfl rfl rfl rfl (hH.r 891 0 876 rfl) ?_
                    refine y_iload rfl rfl ?_
                    refine y_iconst rfl ?_
                    refine y_iadd rfl ?_
                    refine y_callV rfl rfl rfl (t_to_typeAt__p hH (z47 + 1) ⟨by omega, by omega⟩ _) ?_
                    rintro _ _ ⟨rfl, z65, rfl, w65, w63, w64⟩
                    show Pl _ _ _ _ _ _ [iv z65] _ _
                    have gq132 := w63
                    clear w63
                    refine y_bipush rfl rfl ?_
                    refine y_icmp_ne rfl rfl (by unfold rg; omega) (by unfold rg; omega) (fun w66 => ?_) (fun w67 => ?_)
                    · refine y_iload rfl rfl ?_
                      refine y_iconst rfl ?_
                      refine y_iadd rfl ?_
                      refine y_istore rfl rfl rfl ?_
                      have W151 : IOC S to kind from_ (z47 + 1) := by first | exact io_s2 (by omega) W3.o a42 v42 v56 N74 (by omega) (by rw [gq96]; omega) (by rw [gq132]; omega) | exact io_s1 (by omega) W3.o a42 v42 v56 N74 (by omega) (by rw [gq96]; omega) (fun q => by first | (rw [gq132]; omega) | (rw [gq96] at q; omega))
                      refine y_goto rfl rfl ?_
                      exact Pl_weak (ih3 (by omega) ((z47 + 1)) (by omega) (by omega) (by first | exact W151 | exact ioc_0)) (by omega) (And.intro rfl (And.intro rfl (And.intro rfl (And.intro rfl (True.intro)))))
                    · refine y_iload rfl rfl ?_
                      refine y_iconst rfl ?_
                      refine y_iadd rfl ?_
                      refine y_goto rfl rfl ?_
                      refine y_istore rfl rfl rfl ?_
                      have W151 : IOC S to kind from_ (z47 + 2) := by first | exact io_s2 (by omega) W3.o a42 v42 v56 N74 (by omega) (by rw [gq96]; omega) (by rw [gq132]; omega) | exact io_s1 (by omega) W3.o a42 v42 v56 N74 (by omega) (by rw [gq96]; omega) (fun q => by first | (rw [gq132]; omega) | (rw [gq96] at q; omega))
                      refine y_goto rfl rfl ?_
                      exact Pl_weak (ih3 (by omega) ((z47 + 2)) (by omega) (by omega) (by first | exact W151 | exact ioc_0)) (by omega) (And.intro rfl (And.intro rfl (And.intro rfl (And.intro rfl (True.intro)))))
                · refine y_iload rfl rfl ?_
                  refine y_bipush rfl rfl ?_
                  refine y_icmp_eq rfl rfl (by unfold rg; omega) (by unfold rg; omega) (fun w68 => ?_) (fun w69 => ?_)
                  · refine y_iload rfl rfl ?_
                    refine y_bipush rfl rfl ?_
                    refine y_icmp_ne rfl rfl (by unfold rg; omega) (by unfold rg; omega) (fun w70 => ?_) (fun w71 => ?_)
                    · refine y_iload rfl rfl ?_
                      refine y_iconst rfl ?_
                      refine y_iadd rfl ?_
                      refine y_istore rfl rfl rfl ?_
                      have W151 : IOC S to kind from_ (z47 + 1) := by first | exact io_s2 (by omega) W3.o a42 v42 v56 N74 (by omega) (by rw [gq96]; omega) (by rw [gq132]; omega) | exact io_s1 (by omega) W3.o a42 v42 v56 N74 (by omega) (by rw [gq96]; omega) (fun q => by first | (rw [gq132]; omega) | (rw [gq96] at q; omega))
                      refine y_goto rfl rfl ?_
                      exact Pl_weak (ih3 (by omega) ((z47 + 1)) (by omega) (by omega) (by first | exact W151 | exact ioc_0)) (by omega) (And.intro rfl (And.intro rfl (And.intro rfl (And.intro rfl (True.intro)))))
                    · refine y_aload_n rfl rfl ?_
                      refine y_gfr rfl rfl rfl rfl rfl (hH.r 891 0 876 rfl) ?_
                      refine y_iload rfl rfl ?_
                      refine y_iconst rfl ?_
                      refine y_iadd rfl ?_
                      refine y_callV rfl rfl rfl (t_to_typeAt__p hH (z47 + 1) ⟨by omega, by omega⟩ _) ?_
                      rintro _ _ ⟨rfl, z74, rfl, w74, w72, w73⟩
                      show Pl _ _ _ _ _ _ [iv z74] _ _
                      have gq132 := w72
                      clear w72
                      refine y_bipush rfl rfl ?_
                      refine y_icmp_ne rfl rfl (by unfold rg; omega) (by unfold rg; omega) (fun w75 => ?_) (fun w76 => ?_)
                      · refine y_iload rfl rfl ?_
                        refine y_iconst rfl ?_
                        refine y_iadd rfl ?_
                        refine y_istore rfl rfl rfl ?_
                        have W151 : IOC S to kind from_ (z47 + 1) := by first | exact io_s2 (by omega) W3.o a42 v42 v56 N74 (by omega) (by rw [gq96]; omega) (by rw [gq132]; omega) | exact io_s1 (by omega) W3.o a42 v42 v56 N74 (by omega) (by rw [gq96]; omega) (fun q => by first | (rw [gq132]; omega) | (rw [gq96] at q; omega))
                        refine y_goto rfl rfl ?_
                        exact Pl_weak (ih3 (by omega) ((z47 + 1)) (by omega) (by omega) (by first | exact W151 | exact ioc_0)) (by omega) (And.intro rfl (And.intro rfl (And.intro rfl (And.intro rfl (True.intro)))))
                      · refine y_iload rfl rfl ?_
                        refine y_iconst rfl ?_
                        refine y_iadd rfl ?_
                        refine y_goto rfl rfl ?_
                        refine y_istore rfl rfl rfl ?_
                        have W151 : IOC S to kind from_ (z47 + 2) := by first | exact io_s2 (by omega) W3.o a42 v42 v56 N74 (by omega) (by rw [gq96]; omega) (by rw [gq132]; omega) | exact io_s1 (by omega) W3.o a42 v42 v56 N74 (by omega) (by rw [gq96]; omega) (fun q => by first | (rw [gq132]; omega) | (rw [gq96] at q; omega))
                        refine y_goto rfl rfl ?_
                        exact Pl_weak (ih3 (by omega) ((z47 + 2)) (by omega) (by omega) (by first | exact W151 | exact ioc_0)) (by omega) (And.intro rfl (And.intro rfl (And.intro rfl (And.intro rfl (True.intro)))))
                  · refine y_iconst rfl ?_
                    refine y_ireturn rfl rfl ?_
                    exact ⟨rfl, _, rfl, ⟨by omega, by omega⟩, (by first | (have u := K74; first | exact ioc_v W3.o (by omega) (io_n1 (by omega) a42 v42 v56 (Or.inr (by rw [← v74]; omega))) | (have q : ¬ (_ = -1 ∨ isK S (Xi S 21 _) kind = 0) := N74; first | exact ioc_v W3.o (by omega) (io_y1 (by omega) a42 v42 v56 N74 (by omega)) | exact ioc_v W3.o (by omega) (io_x1 (by omega) a42 v42 v56 N74 (by omega) (by rw [gq96]; omega) (by rw [gq96]; omega)))) | (have u := K56; exact ioc_v W3.o (by omega) (io_n1 (by omega) a42 v42 v56 (Or.inl (by omega)))) | exact ioc_v W3.o (by omega) (by rw [ioW, if_pos (by omega)]))⟩
              · refine y_iconst rfl ?_
                refine y_ireturn rfl rfl ?_
                exact ⟨rfl, _, rfl, ⟨by omega, by omega⟩, (by first | (have u := K74; first | exact ioc_v W3.o (by omega) (io_n1 (by omega) a42 v42 v56 (Or.inr (by rw [← v74]; omega))) | (have q : ¬ (_ = -1 ∨ isK S (Xi S 21 _) kind = 0) := N74; first | exact ioc_v W3.o (by omega) (io_y1 (by omega) a42 v42 v56 N74 (by omega)) | exact ioc_v W3.o (by omega) (io_x1 (by omega) a42 v42 v56 N74 (by omega) (by rw [gq96]; omega) (by rw [gq96]; omega)))) | (have u := K56; exact ioc_v W3.o (by omega) (io_n1 (by omega) a42 v42 v56 (Or.inl (by omega)))) | exact ioc_v W3.o (by omega) (by rw [ioW, if_pos (by omega)]))⟩
            · refine y_iconst rfl ?_
              refine y_ireturn rfl rfl ?_
              exact ⟨rfl, _, rfl, ⟨by omega, by omega⟩, (by first | (have u := K74; first | exact ioc_v W3.o (by omega) (io_n1 (by omega) a42 v42 v56 (Or.inr (by rw [← v74]; omega))) | (have q : ¬ (_ = -1 ∨ isK S (Xi S 21 _) kind = 0) := N74; first | exact ioc_v W3.o (by omega) (io_y1 (by omega) a42 v42 v56 N74 (by omega)) | exact ioc_v W3.o (by omega) (io_x1 (by omega) a42 v42 v56 N74 (by omega) (by rw [gq96]; omega) (by rw [gq96]; omega)))) | (have u := K56; exact ioc_v W3.o (by omega) (io_n1 (by omega) a42 v42 v56 (Or.inl (by omega)))) | exact ioc_v W3.o (by omega) (by rw [ioW, if_pos (by omega)]))⟩
  refine y_iload_n rfl rfl ?_
  refine y_istore rfl rfl rfl ?_
  exact Pl_weak (C3 fu (by omega) (from_) (by omega) (by omega) (by first | exact W151 | exact ioc_0)) (by omega) (And.intro rfl (And.intro rfl (And.intro rfl (And.intro rfl (True.intro)))))
abbrev Q_wo_isRelated__p (S : sS) (rl : Int) (a : Int) (b : Int) : pst := fun r S1 => S = S1 ∧ (∃ z : Int, r = some (iv z) ∧ (0 ≤ z ∧ z ≤ 1) ∧ (z = relF S rl a b))
set_option maxRecDepth 100000 in
theorem t_wo_isRelated__p {S : sS} (hH : RI S) (rl : Int) (a : Int) (b : Int) (hrl : 0 ≤ rl ∧ rl ≤ 5) (ha : 0 ≤ a ∧ a ≤ 23) (hb : 0 ≤ b ∧ b ≤ 23) (d : Nat) : Mp lay0 (d + 1) m_wo_isRelated [.ref 20, iv rl, iv a, iv b] S (Q_wo_isRelated__p S rl a b) := by
  refine Mp_R rfl rfl (fun fu => ?_)
  refine y_aload_n rfl rfl ?_
  refine y_gfr rfl rfl rfl rfl rfl (hH.r 20 9 188 rfl) ?_
  refine y_iload_n rfl rfl ?_
  refine y_aaload (n := 6) (a := 189 + (rl).toNat) rfl rfl (by decide) (by omega) (by omega) (by unfold rg; omega) (hH.rw 188 189 6 _ (by decide) (by omega)) ?_
  refine y_iload_n rfl rfl ?_
  refine y_ialoadP (n := 24) rfl (lay_189 (by omega)) (by unfold rg; omega) (fun w1 w2 => ?_)
  have w3 : -2147483648 ≤ (Xi S (189 + (rl).toNat) ((a).toNat)) ∧ (Xi S (189 + (rl).toNat) ((a).toNat)) ≤ 2147483647 := Xi_rgI
  refine y_iload_n rfl rfl ?_
  refine y_ishrF rfl ?_
  have w4 : -2147483648 ≤ (ishrF (Xi S (189 + (rl).toNat) ((a).toNat)) b) ∧ (ishrF (Xi S (189 + (rl).toNat) ((a).toNat)) b) ≤ 2147483647 := ishrF_rg
  refine y_iconst rfl ?_
  refine y_iandF rfl ?_
  have w5 : 0 ≤ (iandF (ishrF (Xi S (189 + (rl).toNat) ((a).toNat)) b) 1) ∧ (iandF (ishrF (Xi S (189 + (rl).toNat) ((a).toNat)) b) 1) ≤ 1 := iandF_le (by omega) (by unfold rg; omega)
  refine y_iconst rfl ?_
  refine y_icmp_ne rfl rfl (by unfold rg; omega) (by unfold rg; omega) (fun w6 => ?_) (fun w7 => ?_)
  · refine y_iconst rfl ?_
    refine y_ireturn rfl rfl ?_
    exact ⟨rfl, _, rfl, ⟨by omega, by omega⟩, (by unfold relF; first | exact (if_pos (by omega)).symm | exact (if_neg (by omega)).symm)⟩
  · refine y_iconst rfl ?_
    refine y_goto rfl rfl ?_
    refine y_ireturn rfl rfl ?_
    exact ⟨rfl, _, rfl, ⟨by omega, by omega⟩, (by unfold relF; first | exact (if_pos (by omega)).symm | exact (if_neg (by omega)).symm)⟩
def md_wo_tellRelated__p : List rec := [(189, 195, 0, 100000)]
abbrev Q_wo_tellRelated__p (S : sS) (rl : Int) (a : Int) (b : Int) : pst := fun r S1 => RI S1 ∧ FR md_wo_tellRelated__p S S1 ∧ (∃ z : Int, r = some (iv z) ∧ (0 ≤ z ∧ z ≤ 1) ∧ (TRT S S1 z rl a b))
set_option maxRecDepth 100000 in
theorem t_wo_tellRelated__p {S : sS} (hH : RI S) (rl : Int) (a : Int) (b : Int) (hrl : 0 ≤ rl ∧ rl ≤ 5) (ha : 0 ≤ a ∧ a ≤ 23) (hb : 0 ≤ b ∧ b ≤ 23) (d : Nat) : Mp lay0 (d + 2) m_wo_tellRelated [.ref 20, iv rl, iv a, iv b] S (Q_wo_tellRelated__p S rl a b) := by
  refine Mp_R rfl rfl (fun fu => ?_)
  have hF : FR md_wo_tellRelated__p S S := FR.rf
  have C31 : (Xi S 17 (rl).toNat = 0 ∨ bz7 (Xi S (189 + (rl).toNat) ((a).toNat)) b) → Pl fu lay0 (d + 1) m_wo_tellRelated 31 [(0, .ref 20), (1, iv rl), (2, iv a), (3, iv b)] [] S (Q_wo_tellRelated__p S rl a b) := by
    intro g31
    have C34 : ∀ (n34 : Nat) (_ : n34 ≤ fu) (v4 : Int), (0 ≤ v4 ∧ v4 ≤ 24) → (0 ≤ v4 ∧ v4 ≤ 24) → (Xi S 17 (rl).toNat = 0 ∨ bz7 (Xi S (189 + (rl).toNat) ((a).toNat)) b) → (Hid (∀ x : Nat, (x : Int) < v4 → (x : Int) ≠ a → relF S rl x b = 0)) → Pl n34 lay0 (d + 1) m_wo_tellRelated 34 [(0, .ref 20), (1, iv rl), (2, iv a), (3, iv b), (4, iv v4)] [] S (Q_wo_tellRelated__p S rl a b) := by
      intro n34
      induction n34 with
      | zero => intros; exact Pl_0
      | succ n34 ih34 =>
        intro hm34 v4 w1 w2 g34 L34
        have C78 : (okT S rl a b) → Pl n34 lay0 (d + 1) m_wo_tellRelated 78 [(0, .ref 20), (1, iv rl), (2, iv a), (3, iv b)] [] S (Q_wo_tellRelated__p S rl a b) := by
          intro G78
          refine y_aload_n rfl rfl ?_
          refine y_gfr rfl rfl rfl rfl rfl (hH.r 20 9 188 rfl) ?_
          refine y_iload_n rfl rfl ?_
          refine y_aaload (n := 6) (a := 189 + (rl).toNat) rfl rfl (by decide) (by omega) (by omega) (by unfold rg; omega) (hH.rw 188 189 6 _ (by decide) (by omega)) ?_
          refine y_iload_n rfl rfl ?_
          refine y_dup2 rfl rfl ?_
          refine y_ialoadP (n := 24) rfl (lay_189 (by omega)) (by unfold rg; omega) (fun w3 w4 => ?_)
          have w5 : -2147483648 ≤ (Xi S (189 + (rl).toNat) ((a).toNat)) ∧ (Xi S (189 + (rl).toNat) ((a).toNat)) ≤ 2147483647 := Xi_rgI
          refine y_iconst rfl ?_
          refine y_iload_n rfl rfl ?_
          refine y_ishlF rfl ?_
          have w6 : -2147483648 ≤ (ishlF 1 b) ∧ (ishlF 1 b) ≤ 2147483647 := ishlF_rg
          refine y_iorF rfl ?_
          have w7 : -2147483648 ≤ (iorF (Xi S (189 + (rl).toNat) ((a).toNat)) (ishlF 1 b)) ∧ (iorF (Xi S (189 + (rl).toNat) ((a).toNat)) (ishlF 1 b)) ≤ 2147483647 := iorF_rg
          refine y_iastoreP (n := 24) rfl (lay_189 (by omega)) (by unfold rg; omega) (fun w8 w9 => ?_)
          obtain ⟨U1, eU1⟩ : ∃ T : sS, T = uI S (189 + (rl).toNat) ((a).toNat) (Int32.ofInt (iorF (Xi S (189 + (rl).toNat) ((a).toNat)) (ishlF 1 b))) := ⟨_, rfl⟩
          rw [← eU1]
          have hHU1 : RI U1 := by rw [eU1]; exact RI_w hH
          have hFU1 : FR md_wo_tellRelated__p S U1 := by rw [eU1]; exact FR.wI hF (mdf_i (r := (189, 195, 0, 100000)) (List.mem_of_getElem? (i := 0) rfl) (inR_i (by omega) (by omega) (by omega) (by omega)))
          have w10 : Xi U1 (189 + (rl).toNat) ((a).toNat) = (iorF (Xi S (189 + (rl).toNat) ((a).toNat)) (ishlF 1 b)) := by rw [eU1]; exact Xi_same (by unfold rg; omega)
          have K91 : True := trivial
          have e91 := eU1
          refine y_iconst rfl ?_
          refine y_ireturn rfl rfl ?_
          exact ⟨hHU1, hFU1, _, rfl, ⟨by omega, by omega⟩, (by first | (have u := K91; exact trt_y G78 e91) | (have u := K64; exact trt_n (fun q => absurd q.2 (by rintro (h | h); (omega); (have := h (v4).toNat (by omega) (by omega); rw [show ((v4).toNat : Int) = v4 by omega, ← v64] at this; omega)))) | exact trt_n (fun q => absurd q.1 (by unfold bz7; omega)))⟩
        refine ys_iload rfl rfl ?_
        refine y_bipush rfl rfl ?_
        refine y_icmp_ge rfl rfl (by unfold rg; omega) (by unfold rg; omega) (fun w11 => ?_) (fun w12 => ?_)
        · exact Pl_weak (C78  (⟨g34, by first | exact Or.inl (by omega) | exact Or.inr (fun x hx hn => L34.o x (by omega) hn)⟩)) (by omega) (And.intro rfl (And.intro rfl (And.intro rfl (And.intro rfl (True.intro)))))
        · refine y_aload_n rfl rfl ?_
          refine y_gfr rfl rfl rfl rfl rfl (hH.r 20 0 1 rfl) ?_
          refine y_gfr rfl rfl rfl rfl rfl (hH.r 1 15 16 rfl) ?_
          refine y_iload_n rfl rfl ?_
          refine y_baloadP (n := 6) rfl rfl rfl (by decide) (by unfold rg; omega) (fun w13 w14 => ?_)
          have w15 : -2147483648 ≤ (Xi S 16 ((rl).toNat)) ∧ (Xi S 16 ((rl).toNat)) ≤ 2147483647 := Xi_rgI
          refine y_if_eq rfl rfl (by unfold rg; omega) (fun w16 => ?_) (fun w17 => ?_)
          · exact Pl_weak (C78  (⟨g34, by first | exact Or.inl (by omega) | exact Or.inr (fun x hx hn => L34.o x (by omega) hn)⟩)) (by omega) (And.intro rfl (And.intro rfl (And.intro rfl (And.intro rfl (True.intro)))))
          · refine y_iload rfl rfl ?_
            refine y_iload_n rfl rfl ?_
            refine y_icmp_eq rfl rfl (by unfold rg; omega) (by unfold rg; omega) (fun w18 => ?_) (fun w19 => ?_)
            · refine y_iinc rfl rfl rfl rfl ?_
              have L72 : Hid (∀ x : Nat, (x : Int) < v4 + 1 → (x : Int) ≠ a → relF S rl x b = 0) := fun x hx hn => by by_cases q : (x : Int) < v4; (exact L34.o x q hn); (have e : (x : Int) = v4 := by omega); (first | omega | (rw [e, ← v64]; omega))
              refine y_goto rfl rfl ?_
              exact Pl_weak (ih34 (by omega) ((v4 + 1)) (by omega) (by omega) (by first | exact g34 | exact g31) (by first | exact L72 | exact fun x hx => absurd hx (by omega))) (by omega) (And.intro rfl (And.intro rfl (And.intro rfl (And.intro rfl (And.intro rfl (True.intro))))))
            · refine y_aload_n rfl rfl ?_
              refine y_iload_n rfl rfl ?_
              refine y_iload rfl rfl ?_
              refine y_iload_n rfl rfl ?_
              refine y_callV rfl rfl rfl (t_wo_isRelated__p hH rl v4 b ⟨by omega, by omega⟩ ⟨by omega, by omega⟩ ⟨by omega, by omega⟩ _) ?_
              rintro _ _ ⟨rfl, z20, rfl, w20, v64⟩
              show Pl _ _ _ _ _ _ [iv z20] _ _
              have K64 : True := trivial
              refine y_if_eq rfl rfl (by unfold rg; omega) (fun w21 => ?_) (fun w22 => ?_)
              · refine y_iinc rfl rfl rfl rfl ?_
                have L72 : Hid (∀ x : Nat, (x : Int) < v4 + 1 → (x : Int) ≠ a → relF S rl x b = 0) := fun x hx hn => by by_cases q : (x : Int) < v4; (exact L34.o x q hn); (have e : (x : Int) = v4 := by omega); (first | omega | (rw [e, ← v64]; omega))
                refine y_goto rfl rfl ?_
                exact Pl_weak (ih34 (by omega) ((v4 + 1)) (by omega) (by omega) (by first | exact g34 | exact g31) (by first | exact L72 | exact fun x hx => absurd hx (by omega))) (by omega) (And.intro rfl (And.intro rfl (And.intro rfl (And.intro rfl (And.intro rfl (True.intro))))))
              · refine y_iconst rfl ?_
                refine y_ireturn rfl rfl ?_
                exact ⟨hH, hF, _, rfl, ⟨by omega, by omega⟩, (by first | (have u := K91; exact trt_y G78 e91) | (have u := K64; exact trt_n (fun q => absurd q.2 (by rintro (h | h); (omega); (have := h (v4).toNat (by omega) (by omega); rw [show ((v4).toNat : Int) = v4 by omega, ← v64] at this; omega)))) | exact trt_n (fun q => absurd q.1 (by unfold bz7; omega)))⟩
    refine y_iconst rfl ?_
    refine y_istore rfl rfl rfl ?_
    exact Pl_weak (C34 fu (by omega) (0) (by omega) (by omega) (by first | exact g34 | exact g31) (by first | exact L72 | exact fun x hx => absurd hx (by omega))) (by omega) (And.intro rfl (And.intro rfl (And.intro rfl (And.intro rfl (And.intro rfl (True.intro))))))
  refine y_aload_n rfl rfl ?_
  refine y_gfr rfl rfl rfl rfl rfl (hH.r 20 0 1 rfl) ?_
  refine y_gfr rfl rfl rfl rfl rfl (hH.r 1 16 17 rfl) ?_
  refine y_iload_n rfl rfl ?_
  refine y_baloadP (n := 6) rfl rfl rfl (by decide) (by unfold rg; omega) (fun w23 w24 => ?_)
  have w25 : -2147483648 ≤ (Xi S 17 ((rl).toNat)) ∧ (Xi S 17 ((rl).toNat)) ≤ 2147483647 := Xi_rgI
  refine y_if_eq rfl rfl (by unfold rg; omega) (fun w26 => ?_) (fun w27 => ?_)
  · exact Pl_weak (C31  (by unfold bz7; omega)) (by omega) (And.intro rfl (And.intro rfl (And.intro rfl (And.intro rfl (True.intro)))))
  · refine y_aload_n rfl rfl ?_
    refine y_gfr rfl rfl rfl rfl rfl (hH.r 20 9 188 rfl) ?_
    refine y_iload_n rfl rfl ?_
    refine y_aaload (n := 6) (a := 189 + (rl).toNat) rfl rfl (by decide) (by omega) (by omega) (by unfold rg; omega) (hH.rw 188 189 6 _ (by decide) (by omega)) ?_
    refine y_iload_n rfl rfl ?_
    refine y_ialoadP (n := 24) rfl (lay_189 (by omega)) (by unfold rg; omega) (fun w28 w29 => ?_)
    have w30 : -2147483648 ≤ (Xi S (189 + (rl).toNat) ((a).toNat)) ∧ (Xi S (189 + (rl).toNat) ((a).toNat)) ≤ 2147483647 := Xi_rgI
    refine y_iconst rfl ?_
    refine y_iload_n rfl rfl ?_
    refine y_ishlF rfl ?_
    have w31 : -2147483648 ≤ (ishlF 1 b) ∧ (ishlF 1 b) ≤ 2147483647 := ishlF_rg
    refine y_iconst rfl ?_
    refine y_ixorF rfl ?_
    have w32 : -2147483648 ≤ (ixorF (ishlF 1 b) (-1)) ∧ (ixorF (ishlF 1 b) (-1)) ≤ 2147483647 := ixorF_rg
    refine y_iandF rfl ?_
    have w33 : -2147483648 ≤ (iandF (Xi S (189 + (rl).toNat) ((a).toNat)) (ixorF (ishlF 1 b) (-1))) ∧ (iandF (Xi S (189 + (rl).toNat) ((a).toNat)) (ixorF (ishlF 1 b) (-1))) ≤ 2147483647 := iandF_rg
    refine y_if_eq rfl rfl (by unfold rg; omega) (fun w34 => ?_) (fun w35 => ?_)
    · exact Pl_weak (C31  (by unfold bz7; omega)) (by omega) (And.intro rfl (And.intro rfl (And.intro rfl (And.intro rfl (True.intro)))))
    · refine y_iconst rfl ?_
      refine y_ireturn rfl rfl ?_
      exact ⟨hH, hF, _, rfl, ⟨by omega, by omega⟩, (by first | (have u := K91; exact trt_y G78 e91) | (have u := K64; exact trt_n (fun q => absurd q.2 (by rintro (h | h); (omega); (have := h (v4).toNat (by omega) (by omega); rw [show ((v4).toNat : Int) = v4 by omega, ← v64] at this; omega)))) | exact trt_n (fun q => absurd q.1 (by unfold bz7; omega)))⟩
def md_re_relateAll__p : List rec := [(189, 195, 0, 100000)]
abbrev Q_re_relateAll__p (S : sS) (rl : Int) (vr : Int) (la : Int) : pst := fun r S1 => RI S1 ∧ FR md_re_relateAll__p S S1 ∧ (∃ z : Int, r = some (iv z) ∧ (0 ≤ z ∧ z ≤ 1) ∧ (RAL S S1 z rl vr la))
set_option maxRecDepth 100000 in
theorem t_re_relateAll__p {S : sS} (hH : RI S) (rl : Int) (vr : Int) (la : Int) (hrl : 0 ≤ rl ∧ rl ≤ 5) (hvr : 0 ≤ vr ∧ vr ≤ 5130) (hla : 0 ≤ la ∧ la ≤ 5130) (h13 : 0 ≤ Xi S 1 3 ∧ Xi S 1 3 ≤ 200) (hCE : CEN S) (hr : Xi S 876 7 ≤ 5130) (hw2 : WH2 S) (hc : 0 ≤ Xi S 5 2 ∧ Xi S 5 2 ≤ 24) (hvl : vr + 1 ≤ la) (d : Nat) : Mp lay0 (d + 3) m_re_relateAll [.ref 891, iv rl, iv vr, iv la] S (Q_re_relateAll__p S rl vr la) := by
  refine Mp_R rfl rfl (fun fu => ?_)
  have hF : FR md_re_relateAll__p S S := FR.rf
  have w1 : -2147483648 ≤ Xi S 1 3 ∧ Xi S 1 3 ≤ 2147483647 := Xi_rgI
  have w2 : -2147483648 ≤ Xi S 5 2 ∧ Xi S 5 2 ≤ 2147483647 := Xi_rgI
  have w3 : -2147483648 ≤ Xi S 876 7 ∧ Xi S 876 7 ≤ 2147483647 := Xi_rgI
  have C3 : ∀ (n3 : Nat) (_ : n3 ≤ fu) (T1 : sS) (_ : RI T1) (_ : FR md_re_relateAll__p S T1) (v4 : Int), (0 ≤ v4 ∧ v4 ≤ 5130) → (0 ≤ v4 ∧ v4 ≤ vr) → (Hid (ROU S rl vr la (v4).toNat S T1)) → Pl n3 lay0 (d + 2) m_re_relateAll 3 [(0, .ref 891), (1, iv rl), (2, iv vr), (3, iv la), (4, iv v4)] [] T1 (Q_re_relateAll__p S rl vr la) := by
    intro n3
    induction n3 with
    | zero => intros; exact Pl_0
    | succ n3 ih3 =>
      intro hm3 T1 hHT1 hFT1 v4 w4 w5 O3
      have w6 : Xi T1 1 3 = Xi S 1 3 := hFT1.x _ _ rfl
      have w7 : Xi T1 5 2 = Xi S 5 2 := hFT1.x _ _ rfl
      have w8 : Xi T1 876 7 = Xi S 876 7 := hFT1.x _ _ rfl
      have C53 : ∀ (n53 : Nat) (_ : n53 ≤ n3) (T2 : sS) (_ : RI T2) (_ : FR md_re_relateAll__p S T2) (v4 : Int) (v5 : Int) (v6 : Int), (0 ≤ v4 ∧ v4 ≤ 5130) → (-1 ≤ v5 ∧ v5 ≤ 63) → (0 ≤ v6 ∧ v6 ≤ 5131) → (0 ≤ v4 ∧ v4 < vr) → (vr + 1 ≤ v6 ∧ v6 ≤ la) → (v5 = -1 → v6 = vr + 1) → (v5 ≠ -1 → 0 ≤ v5 ∧ v5 < Xi S 5 2) → (Hid (RIO S rl vr la v4 v6 v5 T2)) → Pl n53 lay0 (d + 2) m_re_relateAll 53 [(0, .ref 891), (1, iv rl), (2, iv vr), (3, iv la), (4, iv v4), (5, iv v5), (6, iv v6)] [] T2 (Q_re_relateAll__p S rl vr la) := by
        intro n53
        induction n53 with
        | zero => intros; exact Pl_0
        | succ n53 ih53 =>
          intro hm53 T2 hHT2 hFT2 v4 v5 v6 w9 w10 w11 w12 w13 w14 w15 I53
          have w16 : Xi T2 1 3 = Xi S 1 3 := hFT2.x _ _ rfl
          have w17 : Xi T2 5 2 = Xi S 5 2 := hFT2.x _ _ rfl
          have w18 : Xi T2 876 7 = Xi S 876 7 := hFT2.x _ _ rfl
          refine ys_iload rfl rfl ?_
          refine y_iload_n rfl rfl ?_
          refine y_icmp_ge rfl rfl (by unfold rg; omega) (by unfold rg; omega) (fun w19 => ?_) (fun w20 => ?_)
          · refine y_iinc rfl rfl rfl rfl ?_
            have O134 : Hid (ROU S rl vr la (v4 + 1).toNat S T2) := by by_cases c : v5 = -1; (exact rou_n (by omega) I53.o c (by omega)); (first | exact absurd (by omega : v5 = -1) c | (have u := I53.o; rw [show v6 = la by omega] at u; exact rou_y (by omega) u c))
            refine y_goto rfl rfl ?_
            exact Pl_weak (ih3 (by omega) T2 hHT2 hFT2 ((v4 + 1)) (by omega) (by omega) (by first | exact O134 | exact rfl)) (by omega) (And.intro rfl (And.intro rfl (And.intro rfl (And.intro rfl (And.intro rfl (True.intro))))))
          · refine y_iload rfl rfl ?_
            refine y_iconst rfl ?_
            refine y_icmp_eq rfl rfl (by unfold rg; omega) (by unfold rg; omega) (fun w21 => ?_) (fun w22 => ?_)
            · refine y_iinc rfl rfl rfl rfl ?_
              have O134 : Hid (ROU S rl vr la (v4 + 1).toNat S T2) := by by_cases c : v5 = -1; (exact rou_n (by omega) I53.o c (by omega)); (first | exact absurd (by omega : v5 = -1) c | (have u := I53.o; rw [show v6 = la by omega] at u; exact rou_y (by omega) u c))
              refine y_goto rfl rfl ?_
              exact Pl_weak (ih3 (by omega) T2 hHT2 hFT2 ((v4 + 1)) (by omega) (by omega) (by first | exact O134 | exact rfl)) (by omega) (And.intro rfl (And.intro rfl (And.intro rfl (And.intro rfl (And.intro rfl (True.intro))))))
            · refine y_aload_n rfl rfl ?_
              refine y_gfr rfl rfl rfl rfl rfl (hHT2.r 891 0 876 rfl) ?_
              refine y_iload rfl rfl ?_
              refine y_iload_n rfl rfl ?_
              refine y_iconst rfl ?_
              refine y_iadd rfl ?_
              refine y_callV rfl rfl rfl (t_to_beginsRun__p hHT2 v6 (vr + 1) ⟨by omega, by omega⟩ ⟨by omega, by omega⟩ _) ?_
              rintro _ _ ⟨rfl, z23, rfl, w23, v74⟩
              show Pl _ _ _ _ _ _ [iv z23] _ _
              have b74 := v74.trans (bgr_F (by assumption : FR md_re_relateAll__p S T2) rfl)
              clear v74
              refine y_if_eq rfl rfl (by unfold rg; omega) (fun w24 => ?_) (fun w25 => ?_)
              · refine y_iconst rfl ?_
                refine y_istore rfl rfl rfl ?_
                have P103 : (-1) = pTo S vr v6 := by first | (have u := K96; exact pTo_y b74 (by omega) b93 b96) | exact pTo_n b74 (by omega)
                have q103 : ((-1) : Int) ≠ -1 → (0 : Int) ≤ (-1) ∧ ((-1) : Int) < Xi S 5 2 := fun q => by have u := pTo_b (v := vr) (i := v6) hw2 hCE (by rw [← P103]; exact q); rw [← P103] at u; exact u
                refine y_iload rfl rfl ?_
                refine y_iconst rfl ?_
                refine y_icmp_eq rfl rfl (by unfold rg; omega) (by unfold rg; omega) (fun w26 => ?_) (fun w27 => absurd w27 (by omega))
                · refine y_iinc rfl rfl rfl rfl ?_
                  have I128 : Hid (RIO S rl vr la v4 (v6 + 1) v5 T2) := by first | (have u := K120; exact rio_y I53.o (by omega) P103 (by omega) t120 (by omega)) | exact rio_n I53.o (by omega) (P103.symm.trans (by omega))
                  refine y_goto rfl rfl ?_
                  exact Pl_weak (ih53 (by omega) T2 hHT2 hFT2 (v4) (v5) ((v6 + 1)) (by omega) (by omega) (by omega) (by omega) (by omega) (by omega) (by omega) (by first | exact I128 | exact rio_0 O3.o P46)) (by omega) (And.intro rfl (And.intro rfl (And.intro rfl (And.intro rfl (And.intro rfl (And.intro rfl (And.intro rfl (True.intro))))))))
              · refine y_aload_n rfl rfl ?_
                refine y_gfr rfl rfl rfl rfl rfl (hHT2.r 891 4 895 rfl) ?_
                refine y_iconst rfl ?_
                refine y_iload rfl rfl ?_
                refine y_aload_n rfl rfl ?_
                refine y_gfr rfl rfl rfl rfl rfl (hHT2.r 891 0 876 rfl) ?_
                refine y_iload rfl rfl ?_
                refine y_callV rfl rfl rfl (t_to_runEnd__p hHT2 v6 ⟨by omega, by omega⟩ _) ?_
                rintro _ _ ⟨rfl, z29, rfl, w29, v93, w28⟩
                show Pl _ _ _ _ _ _ [iv z29, iv v6, iv 2, .ref 895] _ _
                have b93 := (congrArg (fun F => re7 F v6) (ty7_F (by assumption : FR md_re_relateAll__p S T2) rfl).symm).trans v93
                clear v93
                refine y_callV rfl rfl rfl (t_me_find__p hHT2 2 v6 z29 ⟨by omega, by omega⟩ ⟨by omega, by omega⟩ ⟨by omega, by omega⟩ (by first | assumption | omega) (by first | assumption | exact (CEN_FR hFT2 rfl rfl (by assumption : CEN S))) _) ?_
                rintro _ _ ⟨rfl, z30, rfl, w30, v96⟩
                show Pl _ _ _ _ _ _ [iv z30] _ _
                have b96 := v96.trans (fnd_FR (by assumption : FR md_re_relateAll__p S T2) rfl)
                clear v96
                have K96 : True := trivial
                refine y_goto rfl rfl ?_
                refine y_istore rfl rfl rfl ?_
                have P103 : z30 = pTo S vr v6 := by first | (have u := K96; exact pTo_y b74 (by omega) b93 b96) | exact pTo_n b74 (by omega)
                have q103 : (z30 : Int) ≠ -1 → (0 : Int) ≤ z30 ∧ (z30 : Int) < Xi S 5 2 := fun q => by have u := pTo_b (v := vr) (i := v6) hw2 hCE (by rw [← P103]; exact q); rw [← P103] at u; exact u
                refine y_iload rfl rfl ?_
                refine y_iconst rfl ?_
                refine y_icmp_eq rfl rfl (by unfold rg; omega) (by unfold rg; omega) (fun w31 => ?_) (fun w32 => ?_)
                · refine y_iinc rfl rfl rfl rfl ?_
                  have I128 : Hid (RIO S rl vr la v4 (v6 + 1) v5 T2) := by first | (have u := K120; exact rio_y I53.o (by omega) P103 (by omega) t120 (by omega)) | exact rio_n I53.o (by omega) (P103.symm.trans (by omega))
                  refine y_goto rfl rfl ?_
                  exact Pl_weak (ih53 (by omega) T2 hHT2 hFT2 (v4) (v5) ((v6 + 1)) (by omega) (by omega) (by omega) (by omega) (by omega) (by omega) (by omega) (by first | exact I128 | exact rio_0 O3.o P46)) (by omega) (And.intro rfl (And.intro rfl (And.intro rfl (And.intro rfl (And.intro rfl (And.intro rfl (And.intro rfl (True.intro))))))))
                · refine y_aload_n rfl rfl ?_
                  refine y_gfr rfl rfl rfl rfl rfl (hHT2.r 891 3 20 rfl) ?_
                  refine y_iload_n rfl rfl ?_
                  refine y_iload rfl rfl ?_
                  refine y_iload rfl rfl ?_
                  refine y_callV rfl rfl rfl (t_wo_tellRelated__p hHT2 rl v5 z30 ⟨by omega, by omega⟩ ⟨by omega, by omega⟩ ⟨by omega, by omega⟩ _) ?_
                  rintro _ T3 ⟨hHT3, w34, z33, rfl, w33, t120⟩
                  have hFT3 : FR md_re_relateAll__p S T3 := FR.tr hFT2 w34 rfl
                  show Pl _ _ _ _ _ _ [iv z33] _ _
                  have K120 : True := trivial
                  refine y_if_ne rfl rfl (by unfold rg; omega) (fun w35 => ?_) (fun w36 => ?_)
                  · refine y_iinc rfl rfl rfl rfl ?_
                    have I128 : Hid (RIO S rl vr la v4 (v6 + 1) v5 T3) := by first | (have u := K120; exact rio_y I53.o (by omega) P103 (by omega) t120 (by omega)) | exact rio_n I53.o (by omega) (P103.symm.trans (by omega))
                    refine y_goto rfl rfl ?_
                    exact Pl_weak (ih53 (by omega) T3 hHT3 hFT3 (v4) (v5) ((v6 + 1)) (by omega) (by omega) (by omega) (by omega) (by omega) (by omega) (by omega) (by first | exact I128 | exact rio_0 O3.o P46)) (by omega) (And.intro rfl (And.intro rfl (And.intro rfl (And.intro rfl (And.intro rfl (And.intro rfl (And.intro rfl (True.intro))))))))
                  · refine y_iconst rfl ?_
                    refine y_ireturn rfl rfl ?_
                    exact ⟨hHT3, hFT3, _, rfl, ⟨by omega, by omega⟩, (by first | (have u := K120; exact ral_0 I53.o (by omega) (by omega) (by omega) P103 (by omega) t120 (by omega)) | exact ⟨fun _ => by have u := O3.o; rw [show v4 = vr by omega] at u; exact u, fun q => absurd q (by omega)⟩)⟩
      refine ys_iload rfl rfl ?_
      refine y_iload_n rfl rfl ?_
      refine y_icmp_ge rfl rfl (by unfold rg; omega) (by unfold rg; omega) (fun w37 => ?_) (fun w38 => ?_)
      · refine y_iconst rfl ?_
        refine y_ireturn rfl rfl ?_
        exact ⟨hHT1, hFT1, _, rfl, ⟨by omega, by omega⟩, (by first | (have u := K120; exact ral_0 I53.o (by omega) (by omega) (by omega) P103 (by omega) t120 (by omega)) | exact ⟨fun _ => by have u := O3.o; rw [show v4 = vr by omega] at u; exact u, fun q => absurd q (by omega)⟩)⟩
      · refine y_aload_n rfl rfl ?_
        refine y_gfr rfl rfl rfl rfl rfl (hHT1.r 891 0 876 rfl) ?_
        refine y_iload rfl rfl ?_
        refine y_iconst rfl ?_
        refine y_callV rfl rfl rfl (t_to_beginsRun__p hHT1 v4 0 ⟨by omega, by omega⟩ ⟨by omega, by omega⟩ _) ?_
        rintro _ _ ⟨rfl, z39, rfl, w39, v16⟩
        show Pl _ _ _ _ _ _ [iv z39] _ _
        have b16 := v16.trans (bgr_F (by assumption : FR md_re_relateAll__p S T1) rfl)
        clear v16
        refine y_if_eq rfl rfl (by unfold rg; omega) (fun w40 => ?_) (fun w41 => ?_)
        · refine y_iconst rfl ?_
          refine y_istore rfl rfl rfl ?_
          have P46 : (-1) = pFo S vr v4 := by first | (have u := K39; exact pFo_y b16 (by omega) b36 b39) | exact pFo_n b16 (by omega)
          have q46 : ((-1) : Int) ≠ -1 → (0 : Int) ≤ (-1) ∧ ((-1) : Int) < Xi S 5 2 := fun q => by have u := pFo_b (v := vr) (i := v4) hw2 hCE (by rw [← P46]; exact q); rw [← P46] at u; exact u
          refine y_iload_n rfl rfl ?_
          refine y_iconst rfl ?_
          refine y_iadd rfl ?_
          refine y_istore rfl rfl rfl ?_
          exact Pl_weak (C53 n3 (by omega) T1 hHT1 hFT1 (v4) ((-1)) ((vr + 1)) (by omega) (by omega) (by omega) (by omega) (by omega) (by omega) (by omega) (by first | exact I128 | exact rio_0 O3.o P46)) (by omega) (And.intro rfl (And.intro rfl (And.intro rfl (And.intro rfl (And.intro rfl (And.intro rfl (And.intro rfl (True.intro))))))))
        · refine y_aload_n rfl rfl ?_
          refine y_gfr rfl rfl rfl rfl rfl (hHT1.r 891 4 895 rfl) ?_
          refine y_iconst rfl ?_
          refine y_iload rfl rfl ?_
          refine y_aload_n rfl rfl ?_
          refine y_gfr rfl rfl rfl rfl rfl (hHT1.r 891 0 876 rfl) ?_
          refine y_iload rfl rfl ?_
          refine y_iload_n rfl rfl ?_
          refine y_callV rfl rfl rfl (t_to_runEndUpTo__p hHT1 v4 vr ⟨by omega, by omega⟩ ⟨by omega, by omega⟩ _) ?_
          rintro _ _ ⟨rfl, z43, rfl, w43, v36, w42⟩
          show Pl _ _ _ _ _ _ [iv z43, iv v4, iv 2, .ref 895] _ _
          have b36 := v36.trans (ruF_FR (by assumption : FR md_re_relateAll__p S T1) rfl)
          clear v36
          refine y_callV rfl rfl rfl (t_me_find__p hHT1 2 v4 z43 ⟨by omega, by omega⟩ ⟨by omega, by omega⟩ ⟨by omega, by omega⟩ (by first | assumption | omega) (by first | assumption | exact (CEN_FR hFT1 rfl rfl (by assumption : CEN S))) _) ?_
          rintro _ _ ⟨rfl, z44, rfl, w44, v39⟩
          show Pl _ _ _ _ _ _ [iv z44] _ _
          have b39 := v39.trans (fnd_FR (by assumption : FR md_re_relateAll__p S T1) rfl)
          clear v39
          have K39 : True := trivial
          refine y_goto rfl rfl ?_
          refine y_istore rfl rfl rfl ?_
          have P46 : z44 = pFo S vr v4 := by first | (have u := K39; exact pFo_y b16 (by omega) b36 b39) | exact pFo_n b16 (by omega)
          have q46 : (z44 : Int) ≠ -1 → (0 : Int) ≤ z44 ∧ (z44 : Int) < Xi S 5 2 := fun q => by have u := pFo_b (v := vr) (i := v4) hw2 hCE (by rw [← P46]; exact q); rw [← P46] at u; exact u
          refine y_iload_n rfl rfl ?_
          refine y_iconst rfl ?_
          refine y_iadd rfl ?_
          refine y_istore rfl rfl rfl ?_
          exact Pl_weak (C53 n3 (by omega) T1 hHT1 hFT1 (v4) (z44) ((vr + 1)) (by omega) (by omega) (by omega) (by omega) (by omega) (by omega) (by omega) (by first | exact I128 | exact rio_0 O3.o P46)) (by omega) (And.intro rfl (And.intro rfl (And.intro rfl (And.intro rfl (And.intro rfl (And.intro rfl (And.intro rfl (True.intro))))))))
  refine y_iconst rfl ?_
  refine y_istore rfl rfl rfl ?_
  exact Pl_weak (C3 fu (by omega) S hH hF (0) (by omega) (by omega) (by first | exact O134 | exact rfl)) (by omega) (And.intro rfl (And.intro rfl (And.intro rfl (And.intro rfl (And.intro rfl (True.intro))))))
def md_re_tellLoose__p : List rec := [(189, 195, 0, 100000), (876, 877, 8, 9), (876, 877, 9, 10)]
abbrev Q_re_tellLoose__p (S : sS) : pst := fun r S1 => RI S1 ∧ FR md_re_tellLoose__p S S1 ∧ (∃ z : Int, r = some (iv z) ∧ (0 ≤ z ∧ z ≤ 1) ∧ (TLQ S S1 z))
set_option maxRecDepth 100000 in
theorem t_re_tellLoose__p {S : sS} (hH : RI S) (h13 : 0 ≤ Xi S 1 3 ∧ Xi S 1 3 ≤ 200) (hCE : CEN S) (hf : Xi S 876 8 = 0) (hr : Xi S 876 7 ≤ 5130) (hw2 : WH2 S) (hc : 0 ≤ Xi S 5 2 ∧ Xi S 5 2 ≤ 24) (h7 : 0 < Xi S 876 7) (hvr : Hid (∀ n : Nat, vbL S n ≠ -1 → 0 ≤ Xi S 18 (vbL S n).toNat ∧ Xi S 18 (vbL S n).toNat ≤ 5)) (d : Nat) : Mp lay0 (d + 4) m_re_tellLoose [.ref 891] S (Q_re_tellLoose__p S) := by
  refine Mp_R rfl rfl (fun fu => ?_)
  have hF : FR md_re_tellLoose__p S S := FR.rf
  have w1 : -2147483648 ≤ Xi S 1 3 ∧ Xi S 1 3 ≤ 2147483647 := Xi_rgI
  have w2 : -2147483648 ≤ Xi S 5 2 ∧ Xi S 5 2 ≤ 2147483647 := Xi_rgI
  have w3 : -2147483648 ≤ Xi S 876 7 ∧ Xi S 876 7 ≤ 2147483647 := Xi_rgI
  have w4 : -2147483648 ≤ Xi S 876 8 ∧ Xi S 876 8 ≤ 2147483647 := Xi_rgI
  have C21 : ∀ (n21 : Nat) (_ : n21 ≤ fu) (v1 : Int) (v2 : Int) (v3 : Int) (v4 : Int) (v5 : Int) (v6 : Int), (-1 ≤ v1 ∧ v1 ≤ 5130) → (0 ≤ v2 ∧ v2 ≤ 1) → (0 ≤ v3 ∧ v3 ≤ 5130) → (-1 ≤ v4 ∧ v4 ≤ 5130) → (-2147483648 ≤ v5 ∧ v5 ≤ 2147483647) → (0 ≤ v6 ∧ v6 ≤ 5130) → (0 ≤ v6 ∧ v6 ≤ Xi S 876 7 - 1) → (v1 = Xi S 876 7 - 1) → (0 ≤ v3 ∧ v3 ≤ v6) → (v2 = fl7 (ty7 S) (v6).toNat) → (Hid (LIN S (Xi S 876 7 - 1) (v6) v3 v4 v5)) → Pl n21 lay0 (d + 3) m_re_tellLoose 21 [(0, .ref 891), (1, iv v1), (2, iv v2), (3, iv v3), (4, iv v4), (5, iv v5), (6, iv v6)] [] S (Q_re_tellLoose__p S) := by
    intro n21
    induction n21 with
    | zero => intros; exact Pl_0
    | succ n21 ih21 =>
      intro hm21 v1 v2 v3 v4 v5 v6 w5 w6 w7 w8 w9 w10 w11 w12 w13 F21 Q21
      refine ys_iload rfl rfl ?_
      refine y_iload_n rfl rfl ?_
      refine y_icmp_ge rfl rfl (by unfold rg; omega) (by unfold rg; omega) (fun w14 => ?_) (fun w15 => ?_)
      · refine y_iload_n rfl rfl ?_
        have e179 : v6 = Xi S 876 7 - 1 := by omega
        have q179 : v3 = cnL S (Xi S 876 7 - 1) ((Xi S 876 7 - 1)).toNat := by have u := Q21.o.1; rw [e179] at u; exact u
        refine y_iconst rfl ?_
        refine y_icmp_eq rfl rfl (by unfold rg; omega) (by unfold rg; omega) (fun w16 => ?_) (fun w17 => ?_)
        · refine y_aload_n rfl rfl ?_
          have q200 := lin_1 Q21.o (by omega) hvr.o
          have b200 := q200.1
          have c200 := q200.2
          refine y_iload rfl rfl ?_
          refine y_iload rfl rfl ?_
          refine y_iload_n rfl rfl ?_
          refine y_callV rfl rfl rfl (t_re_relateAll__p hH v5 v4 v1 ⟨by omega, by omega⟩ ⟨by omega, by omega⟩ ⟨by omega, by omega⟩ (by first | assumption | omega) (by first | assumption | exact (CEN_FR hF rfl rfl (by assumption : CEN S))) (by first | assumption | omega) (by first | assumption | omega) (by first | assumption | omega) (by first | assumption | omega) _) ?_
          rintro _ T1 ⟨hHT1, w19, z18, rfl, w18, O209⟩
          have hFT1 : FR md_re_tellLoose__p S T1 := FR.tr hF w19 rfl
          show Pl _ _ _ _ _ _ [iv z18] _ _
          have K209 : True := trivial
          refine y_if_ne rfl rfl (by unfold rg; omega) (fun w20 => ?_) (fun w21 => ?_)
          · refine y_iconst rfl ?_
            refine y_goto rfl rfl ?_
            refine y_ireturn rfl rfl ?_
            exact ⟨hHT1, hFT1, _, rfl, ⟨by omega, by omega⟩, (by first | (have u := K209; first | (have t := Y221; exact tlo_f q200.1 q200.2 O209 (by omega) (by omega) Y221) | exact tlo_t q200.1 q200.2 O209 (by omega) (by omega)) | (have u := W199; exact tlo_n (by rw [← q179]; omega) (by omega) (by rw [← q179]; first | (rw [if_pos (by omega)]; exact W199) | (rw [if_neg (by omega)]; exact W199))))⟩
          · refine y_aload_n rfl rfl ?_
            refine y_gfr rfl rfl rfl rfl rfl (hHT1.r 891 0 876 rfl) ?_
            refine y_iconst rfl ?_
            refine y_iconst rfl ?_
            have w22 : Xi T1 876 8 = Xi S 876 8 := (show Xi T1 876 8 = Xi S 876 8 from w19.x _ _ rfl)
            have w23 : Xi T1 876 9 = Xi S 876 9 := (show Xi T1 876 9 = Xi S 876 9 from w19.x _ _ rfl)
            refine y_callV rfl rfl rfl (t_to_wrong__p hHT1 5 0 ⟨by omega, by omega⟩ ⟨by omega, by omega⟩ _) ?_
            rintro _ T2 ⟨hHT2, w27, z26, rfl, w26, w24, f221, w25⟩
            have hFT2 : FR md_re_tellLoose__p S T2 := FR.tr hFT1 w27 rfl
            show Pl _ _ _ _ _ _ [iv z26] _ _
            have Y221 : FTO S T2 5 0 := by have t := f221 (by omega); exact ⟨t.1, t.2.trans (pc7_FR (by assumption : FR md_re_relateAll__p S T1) rfl rfl rfl _)⟩
            refine y_if_eq rfl rfl (by unfold rg; omega) (fun w28 => ?_) (fun w29 => ?_)
            · refine y_iconst rfl ?_
              refine y_ireturn rfl rfl ?_
              exact ⟨hHT2, hFT2, _, rfl, ⟨by omega, by omega⟩, (by first | (have u := K209; first | (have t := Y221; exact tlo_f q200.1 q200.2 O209 (by omega) (by omega) Y221) | exact tlo_t q200.1 q200.2 O209 (by omega) (by omega)) | (have u := W199; exact tlo_n (by rw [← q179]; omega) (by omega) (by rw [← q179]; first | (rw [if_pos (by omega)]; exact W199) | (rw [if_neg (by omega)]; exact W199))))⟩
            · refine y_iconst rfl ?_
              refine y_goto rfl rfl ?_
              refine y_ireturn rfl rfl ?_
              exact ⟨hHT2, hFT2, _, rfl, ⟨by omega, by omega⟩, (by first | (have u := K209; first | (have t := Y221; exact tlo_f q200.1 q200.2 O209 (by omega) (by omega) Y221) | exact tlo_t q200.1 q200.2 O209 (by omega) (by omega)) | (have u := W199; exact tlo_n (by rw [← q179]; omega) (by omega) (by rw [← q179]; first | (rw [if_pos (by omega)]; exact W199) | (rw [if_neg (by omega)]; exact W199))))⟩
        · refine y_aload_n rfl rfl ?_
          refine y_gfr rfl rfl rfl rfl rfl (hH.r 891 0 876 rfl) ?_
          refine y_iload_n rfl rfl ?_
          refine y_if_ne rfl rfl (by unfold rg; omega) (fun w30 => ?_) (fun w31 => ?_)
          · refine y_bipush rfl rfl ?_
            refine y_iconst rfl ?_
            refine y_callV rfl rfl rfl (t_to_wrong__p hH 7 0 ⟨by omega, by omega⟩ ⟨by omega, by omega⟩ _) ?_
            rintro _ T3 ⟨hHT3, w35, z34, rfl, w34, w32, f199, w33⟩
            have hFT3 : FR md_re_tellLoose__p S T3 := FR.tr hF w35 rfl
            show Pl _ _ _ _ _ _ [iv z34] _ _
            have W199 := f199 hf
            refine y_ireturn rfl (retI_z (by omega)) ?_
            exact ⟨hHT3, hFT3, _, rfl, ⟨by omega, by omega⟩, (by first | (have u := K209; first | (have t := Y221; exact tlo_f q200.1 q200.2 O209 (by omega) (by omega) Y221) | exact tlo_t q200.1 q200.2 O209 (by omega) (by omega)) | (have u := W199; exact tlo_n (by rw [← q179]; omega) (by omega) (by rw [← q179]; first | (rw [if_pos (by omega)]; exact W199) | (rw [if_neg (by omega)]; exact W199))))⟩
          · refine y_iconst rfl ?_
            refine y_goto rfl rfl ?_
            refine y_iconst rfl ?_
            refine y_callV rfl rfl rfl (t_to_wrong__p hH 4 0 ⟨by omega, by omega⟩ ⟨by omega, by omega⟩ _) ?_
            rintro _ T4 ⟨hHT4, w39, z38, rfl, w38, w36, f199, w37⟩
            have hFT4 : FR md_re_tellLoose__p S T4 := FR.tr hF w39 rfl
            show Pl _ _ _ _ _ _ [iv z38] _ _
            have W199 := f199 hf
            refine y_ireturn rfl (retI_z (by omega)) ?_
            exact ⟨hHT4, hFT4, _, rfl, ⟨by omega, by omega⟩, (by first | (have u := K209; first | (have t := Y221; exact tlo_f q200.1 q200.2 O209 (by omega) (by omega) Y221) | exact tlo_t q200.1 q200.2 O209 (by omega) (by omega)) | (have u := W199; exact tlo_n (by rw [← q179]; omega) (by omega) (by rw [← q179]; first | (rw [if_pos (by omega)]; exact W199) | (rw [if_neg (by omega)]; exact W199))))⟩
      · refine y_aload_n rfl rfl ?_
        refine y_gfr rfl rfl rfl rfl rfl (hH.r 891 0 876 rfl) ?_
        refine y_iload rfl rfl ?_
        refine y_callV rfl rfl rfl (t_to_typeAt__p hH v6 ⟨by omega, by omega⟩ _) ?_
        rintro _ _ ⟨rfl, z42, rfl, w42, w40, w41⟩
        show Pl _ _ _ _ _ _ [iv z42] _ _
        have gq33 := w40
        clear w40
        refine y_istore rfl rfl rfl ?_
        refine y_iload_n rfl rfl ?_
        refine y_if_ne rfl rfl (by unfold rg; omega) (fun w43 => ?_) (fun w44 => ?_)
        · refine y_iconst rfl ?_
          refine y_goto rfl rfl ?_
          refine y_istore_n rfl rfl rfl ?_
          have F61 : 1 = fl7 (ty7 S) (v6 + 1).toNat := by rw [show (v6 + 1).toNat = (v6).toNat + 1 by omega]; show _ = (if fl7 (ty7 S) (v6).toNat ≠ 0 ∨ ty7 S ((v6).toNat : Int) = 16 ∨ ty7 S ((v6).toNat : Int) = 104 then (1 : Int) else 0); rw [← F21, show (((v6).toNat : Nat) : Int) = v6 by omega, gq33]; first | (rw [if_pos (by omega)]) | (rw [if_neg (by omega)])
          refine y_iload rfl rfl ?_
          refine y_bipush rfl rfl ?_
          refine y_icmp_ne rfl rfl (by unfold rg; omega) (by unfold rg; omega) (fun w45 => ?_) (fun w46 => ?_)
          · refine y_iconst rfl ?_
            refine y_istore rfl rfl rfl ?_
            have V97 : (-1) = vbL S (v6).toNat := by first | (have u := K90; exact vb_y (by omega) (by rw [gq33]; omega) F61 v90 (by omega)) | exact vb_n (by omega) (by rw [gq33]; omega)
            refine y_iload rfl rfl ?_
            refine y_iconst rfl ?_
            refine y_icmp_ne rfl rfl (by unfold rg; omega) (by unfold rg; omega) (fun w47 => absurd w47 (by omega)) (fun w48 => ?_)
            · refine y_goto rfl rfl ?_
              refine y_iinc rfl rfl rfl rfl ?_
              have Q173 : Hid (LIN S (Xi S 876 7 - 1) (v6 + 1) v3 v4 v5) := by first | (have u := K156; first | exact lin_y Q21.o (by omega) V97 (by omega) v134 (by omega) v156 (by omega) | exact lin_n Q21.o (by omega) (fun q => q.2.2 (by rw [← V97, show (((v6).toNat : Nat) : Int) = v6 by omega, ← v156]; omega))) | (have u := K134; exact lin_n Q21.o (by omega) (fun q => q.2.1 (by rw [← V97, show (((v6).toNat : Nat) : Int) = v6 by omega, ← v134]; omega))) | exact lin_n Q21.o (by omega) (fun q => q.1 (V97.symm.trans (by omega)))
              refine y_goto rfl rfl ?_
              exact Pl_weak (ih21 (by omega) (v1) (1) (v3) (v4) (v5) ((v6 + 1)) (by omega) (by omega) (by omega) (by omega) (by omega) (by omega) (by omega) (by omega) (by omega) (by first | exact F61 | rfl) (by first | exact Q173 | exact lin_0)) (by omega) (And.intro rfl (And.intro rfl (And.intro rfl (And.intro rfl (And.intro rfl (And.intro rfl (And.intro rfl (True.intro))))))))
          · refine y_aload_n rfl rfl ?_
            refine y_gfr rfl rfl rfl rfl rfl (hH.r 891 4 895 rfl) ?_
            refine y_iload_n rfl rfl ?_
            refine y_if_eq rfl rfl (by unfold rg; omega) (fun w49 => absurd w49 (by omega)) (fun w50 => ?_)
            · refine y_bipush rfl rfl ?_
              refine y_goto rfl rfl ?_
              refine y_iload rfl rfl ?_
              refine y_iload rfl rfl ?_
              refine y_iconst rfl ?_
              refine y_iadd rfl ?_
              refine y_callV rfl rfl rfl (t_me_find__p hH 7 v6 (v6 + 1) ⟨by omega, by omega⟩ ⟨by omega, by omega⟩ ⟨by omega, by omega⟩ (by first | assumption | omega) (by first | assumption | exact (CEN_FR hF rfl rfl (by assumption : CEN S))) _) ?_
              rintro _ _ ⟨rfl, z51, rfl, w51, v90⟩
              show Pl _ _ _ _ _ _ [iv z51] _ _
              have K90 : True := trivial
              refine y_goto rfl rfl ?_
              refine y_istore rfl rfl rfl ?_
              have V97 : z51 = vbL S (v6).toNat := by first | (have u := K90; exact vb_y (by omega) (by rw [gq33]; omega) F61 v90 (by omega)) | exact vb_n (by omega) (by rw [gq33]; omega)
              refine y_iload rfl rfl ?_
              refine y_iconst rfl ?_
              refine y_icmp_ne rfl rfl (by unfold rg; omega) (by unfold rg; omega) (fun w52 => ?_) (fun w53 => ?_)
              · refine y_aload_n rfl rfl ?_
                refine y_gfr rfl rfl rfl rfl rfl (hH.r 891 2 1 rfl) ?_
                refine y_gfr rfl rfl rfl rfl rfl (hH.r 1 17 18 rfl) ?_
                refine y_iload rfl rfl ?_
                refine y_ialoadP (n := 8) rfl rfl (by unfold rg; omega) (fun w54 w55 => ?_)
                have w56 : -2147483648 ≤ (Xi S 18 ((z51).toNat)) ∧ (Xi S 18 ((z51).toNat)) ≤ 2147483647 := Xi_rgI
                refine y_istore rfl rfl rfl ?_
                refine y_aload_n rfl rfl ?_
                refine y_iconst rfl ?_
                refine y_iload rfl rfl ?_
                refine y_aload_n rfl rfl ?_
                refine y_gfr rfl rfl rfl rfl rfl (hH.r 891 2 1 rfl) ?_
                refine y_gfr rfl rfl rfl rfl rfl (hH.r 1 13 14 rfl) ?_
                refine y_iload rfl rfl ?_
                refine y_ialoadP (n := 6) rfl rfl (by unfold rg; omega) (fun w57 w58 => ?_)
                have w59 : -2147483648 ≤ (Xi S 14 (((Xi S 18 ((z51).toNat))).toNat)) ∧ (Xi S 14 (((Xi S 18 ((z51).toNat))).toNat)) ≤ 2147483647 := Xi_rgI
                refine y_callV rfl rfl rfl (t_re_isObjectList__p hH 0 v6 (Xi S 14 (((Xi S 18 ((z51).toNat))).toNat)) ⟨by omega, by omega⟩ ⟨by omega, by omega⟩ ⟨by omega, by omega⟩ (by first | assumption | omega) (by first | assumption | exact (CEN_FR hF rfl rfl (by assumption : CEN S))) (by first | assumption | omega) _) ?_
                rintro _ _ ⟨rfl, z60, rfl, w60, v134⟩
                show Pl _ _ _ _ _ _ [iv z60] _ _
                have K134 : True := trivial
                refine y_if_eq rfl rfl (by unfold rg; omega) (fun w61 => ?_) (fun w62 => ?_)
                · refine y_iinc rfl rfl rfl rfl ?_
                  have Q173 : Hid (LIN S (Xi S 876 7 - 1) (v6 + 1) v3 v4 v5) := by first | (have u := K156; first | exact lin_y Q21.o (by omega) V97 (by omega) v134 (by omega) v156 (by omega) | exact lin_n Q21.o (by omega) (fun q => q.2.2 (by rw [← V97, show (((v6).toNat : Nat) : Int) = v6 by omega, ← v156]; omega))) | (have u := K134; exact lin_n Q21.o (by omega) (fun q => q.2.1 (by rw [← V97, show (((v6).toNat : Nat) : Int) = v6 by omega, ← v134]; omega))) | exact lin_n Q21.o (by omega) (fun q => q.1 (V97.symm.trans (by omega)))
                  refine y_goto rfl rfl ?_
                  exact Pl_weak (ih21 (by omega) (v1) (1) (v3) (v4) (v5) ((v6 + 1)) (by omega) (by omega) (by omega) (by omega) (by omega) (by omega) (by omega) (by omega) (by omega) (by first | exact F61 | rfl) (by first | exact Q173 | exact lin_0)) (by omega) (And.intro rfl (And.intro rfl (And.intro rfl (And.intro rfl (And.intro rfl (And.intro rfl (And.intro rfl (True.intro))))))))
                · refine y_aload_n rfl rfl ?_
                  refine y_iload rfl rfl ?_
                  refine y_iconst rfl ?_
                  refine y_iadd rfl ?_
                  refine y_iload_n rfl rfl ?_
                  refine y_aload_n rfl rfl ?_
                  refine y_gfr rfl rfl rfl rfl rfl (hH.r 891 2 1 rfl) ?_
                  refine y_gfr rfl rfl rfl rfl rfl (hH.r 1 14 15 rfl) ?_
                  refine y_iload rfl rfl ?_
                  refine y_ialoadP (n := 6) rfl rfl (by unfold rg; omega) (fun w63 w64 => ?_)
                  have w65 : -2147483648 ≤ (Xi S 15 (((Xi S 18 ((z51).toNat))).toNat)) ∧ (Xi S 15 (((Xi S 18 ((z51).toNat))).toNat)) ≤ 2147483647 := Xi_rgI
                  refine y_callV rfl rfl rfl (t_re_isObjectList__p hH (v6 + 1) v1 (Xi S 15 (((Xi S 18 ((z51).toNat))).toNat)) ⟨by omega, by omega⟩ ⟨by omega, by omega⟩ ⟨by omega, by omega⟩ (by first | assumption | omega) (by first | assumption | exact (CEN_FR hF rfl rfl (by assumption : CEN S))) (by first | assumption | omega) _) ?_
                  rintro _ _ ⟨rfl, z66, rfl, w66, v156⟩
                  show Pl _ _ _ _ _ _ [iv z66] _ _
                  have K156 : True := trivial
                  rw [show v1 = Xi S 876 7 - 1 by omega] at v156
                  refine y_if_eq rfl rfl (by unfold rg; omega) (fun w67 => ?_) (fun w68 => ?_)
                  · refine y_iinc rfl rfl rfl rfl ?_
                    have Q173 : Hid (LIN S (Xi S 876 7 - 1) (v6 + 1) v3 v4 v5) := by first | (have u := K156; first | exact lin_y Q21.o (by omega) V97 (by omega) v134 (by omega) v156 (by omega) | exact lin_n Q21.o (by omega) (fun q => q.2.2 (by rw [← V97, show (((v6).toNat : Nat) : Int) = v6 by omega, ← v156]; omega))) | (have u := K134; exact lin_n Q21.o (by omega) (fun q => q.2.1 (by rw [← V97, show (((v6).toNat : Nat) : Int) = v6 by omega, ← v134]; omega))) | exact lin_n Q21.o (by omega) (fun q => q.1 (V97.symm.trans (by omega)))
                    refine y_goto rfl rfl ?_
                    exact Pl_weak (ih21 (by omega) (v1) (1) (v3) (v4) (v5) ((v6 + 1)) (by omega) (by omega) (by omega) (by omega) (by omega) (by omega) (by omega) (by omega) (by omega) (by first | exact F61 | rfl) (by first | exact Q173 | exact lin_0)) (by omega) (And.intro rfl (And.intro rfl (And.intro rfl (And.intro rfl (And.intro rfl (And.intro rfl (And.intro rfl (True.intro))))))))
                  · refine y_iload rfl rfl ?_
                    refine y_istore rfl rfl rfl ?_
                    refine y_iload rfl rfl ?_
                    refine y_istore rfl rfl rfl ?_
                    refine y_iinc rfl rfl rfl rfl ?_
                    refine y_iinc rfl rfl rfl rfl ?_
                    have Q173 : Hid (LIN S (Xi S 876 7 - 1) (v6 + 1) (v3 + 1) v6 (Xi S 18 ((z51).toNat))) := by first | (have u := K156; first | exact lin_y Q21.o (by omega) V97 (by omega) v134 (by omega) v156 (by omega) | exact lin_n Q21.o (by omega) (fun q => q.2.2 (by rw [← V97, show (((v6).toNat : Nat) : Int) = v6 by omega, ← v156]; omega))) | (have u := K134; exact lin_n Q21.o (by omega) (fun q => q.2.1 (by rw [← V97, show (((v6).toNat : Nat) : Int) = v6 by omega, ← v134]; omega))) | exact lin_n Q21.o (by omega) (fun q => q.1 (V97.symm.trans (by omega)))
                    refine y_goto rfl rfl ?_
                    exact Pl_weak (ih21 (by omega) (v1) (1) ((v3 + 1)) (v6) ((Xi S 18 ((z51).toNat))) ((v6 + 1)) (by omega) (by omega) (by omega) (by omega) (by omega) (by omega) (by omega) (by omega) (by omega) (by first | exact F61 | rfl) (by first | exact Q173 | exact lin_0)) (by omega) (And.intro rfl (And.intro rfl (And.intro rfl (And.intro rfl (And.intro rfl (And.intro rfl (And.intro rfl (True.intro))))))))
              · refine y_goto rfl rfl ?_
                refine y_iinc rfl rfl rfl rfl ?_
                have Q173 : Hid (LIN S (Xi S 876 7 - 1) (v6 + 1) v3 v4 v5) := by first | (have u := K156; first | exact lin_y Q21.o (by omega) V97 (by omega) v134 (by omega) v156 (by omega) | exact lin_n Q21.o (by omega) (fun q => q.2.2 (by rw [← V97, show (((v6).toNat : Nat) : Int) = v6 by omega, ← v156]; omega))) | (have u := K134; exact lin_n Q21.o (by omega) (fun q => q.2.1 (by rw [← V97, show (((v6).toNat : Nat) : Int) = v6 by omega, ← v134]; omega))) | exact lin_n Q21.o (by omega) (fun q => q.1 (V97.symm.trans (by omega)))
                refine y_goto rfl rfl ?_
                exact Pl_weak (ih21 (by omega) (v1) (1) (v3) (v4) (v5) ((v6 + 1)) (by omega) (by omega) (by omega) (by omega) (by omega) (by omega) (by omega) (by omega) (by omega) (by first | exact F61 | rfl) (by first | exact Q173 | exact lin_0)) (by omega) (And.intro rfl (And.intro rfl (And.intro rfl (And.intro rfl (And.intro rfl (And.intro rfl (And.intro rfl (True.intro))))))))
        · refine y_iload rfl rfl ?_
          refine y_bipush rfl rfl ?_
          refine y_icmp_eq rfl rfl (by unfold rg; omega) (by unfold rg; omega) (fun w69 => ?_) (fun w70 => ?_)
          · refine y_iconst rfl ?_
            refine y_goto rfl rfl ?_
            refine y_istore_n rfl rfl rfl ?_
            have F61 : 1 = fl7 (ty7 S) (v6 + 1).toNat := by rw [show (v6 + 1).toNat = (v6).toNat + 1 by omega]; show _ = (if fl7 (ty7 S) (v6).toNat ≠ 0 ∨ ty7 S ((v6).toNat : Int) = 16 ∨ ty7 S ((v6).toNat : Int) = 104 then (1 : Int) else 0); rw [← F21, show (((v6).toNat : Nat) : Int) = v6 by omega, gq33]; first | (rw [if_pos (by omega)]) | (rw [if_neg (by omega)])
            refine y_iload rfl rfl ?_
            refine y_bipush rfl rfl ?_
            refine y_icmp_ne rfl rfl (by unfold rg; omega) (by unfold rg; omega) (fun w71 => ?_) (fun w72 => ?_)
            · refine y_iconst rfl ?_
              refine y_istore rfl rfl rfl ?_
              have V97 : (-1) = vbL S (v6).toNat := by first | (have u := K90; exact vb_y (by omega) (by rw [gq33]; omega) F61 v90 (by omega)) | exact vb_n (by omega) (by rw [gq33]; omega)
              refine y_iload rfl rfl ?_
              refine y_iconst rfl ?_
              refine y_icmp_ne rfl rfl (by unfold rg; omega) (by unfold rg; omega) (fun w73 => absurd w73 (by omega)) (fun w74 => ?_)
              · refine y_goto rfl rfl ?_
                refine y_iinc rfl rfl rfl rfl ?_
                have Q173 : Hid (LIN S (Xi S 876 7 - 1) (v6 + 1) v3 v4 v5) := by first | (have u := K156; first | exact lin_y Q21.o (by omega) V97 (by omega) v134 (by omega) v156 (by omega) | exact lin_n Q21.o (by omega) (fun q => q.2.2 (by rw [← V97, show (((v6).toNat : Nat) : Int) = v6 by omega, ← v156]; omega))) | (have u := K134; exact lin_n Q21.o (by omega) (fun q => q.2.1 (by rw [← V97, show (((v6).toNat : Nat) : Int) = v6 by omega, ← v134]; omega))) | exact lin_n Q21.o (by omega) (fun q => q.1 (V97.symm.trans (by omega)))
                refine y_goto rfl rfl ?_
                exact Pl_weak (ih21 (by omega) (v1) (1) (v3) (v4) (v5) ((v6 + 1)) (by omega) (by omega) (by omega) (by omega) (by omega) (by omega) (by omega) (by omega) (by omega) (by first | exact F61 | rfl) (by first | exact Q173 | exact lin_0)) (by omega) (And.intro rfl (And.intro rfl (And.intro rfl (And.intro rfl (And.intro rfl (And.intro rfl (And.intro rfl (True.intro))))))))
            · refine y_aload_n rfl rfl ?_
              refine y_gfr rfl rfl rfl rfl rfl (hH.r 891 4 895 rfl) ?_
              refine y_iload_n rfl rfl ?_
              refine y_if_eq rfl rfl (by unfold rg; omega) (fun w75 => absurd w75 (by omega)) (fun w76 => ?_)
              · refine y_bipush rfl rfl ?_
                refine y_goto rfl rfl ?_
                refine y_iload rfl rfl ?_
                refine y_iload rfl rfl ?_
                refine y_iconst rfl ?_
                refine y_iadd rfl ?_
                refine y_callV rfl rfl rfl (t_me_find__p hH 7 v6 (v6 + 1) ⟨by omega, by omega⟩ ⟨by omega, by omega⟩ ⟨by omega, by omega⟩ (by first | assumption | omega) (by first | assumption | exact (CEN_FR hF rfl rfl (by assumption : CEN S))) _) ?_
                rintro _ _ ⟨rfl, z77, rfl, w77, v90⟩
                show Pl _ _ _ _ _ _ [iv z77] _ _
                have K90 : True := trivial
                refine y_goto rfl rfl ?_
                refine y_istore rfl rfl rfl ?_
                have V97 : z77 = vbL S (v6).toNat := by first | (have u := K90; exact vb_y (by omega) (by rw [gq33]; omega) F61 v90 (by omega)) | exact vb_n (by omega) (by rw [gq33]; omega)
                refine y_iload rfl rfl ?_
                refine y_iconst rfl ?_
                refine y_icmp_ne rfl rfl (by unfold rg; omega) (by unfold rg; omega) (fun w78 => ?_) (fun w79 => ?_)
                · refine y_aload_n rfl rfl ?_
                  refine y_gfr rfl rfl rfl rfl rfl (hH.r 891 2 1 rfl) ?_
                  refine y_gfr rfl rfl rfl rfl rfl (hH.r 1 17 18 rfl) ?_
                  refine y_iload rfl rfl ?_
                  refine y_ialoadP (n := 8) rfl rfl (by unfold rg; omega) (fun w80 w81 => ?_)
                  have w82 : -2147483648 ≤ (Xi S 18 ((z77).toNat)) ∧ (Xi S 18 ((z77).toNat)) ≤ 2147483647 := Xi_rgI
                  refine y_istore rfl rfl rfl ?_
                  refine y_aload_n rfl rfl ?_
                  refine y_iconst rfl ?_
                  refine y_iload rfl rfl ?_
                  refine y_aload_n rfl rfl ?_
                  refine y_gfr rfl rfl rfl rfl rfl (hH.r 891 2 1 rfl) ?_
                  refine y_gfr rfl rfl rfl rfl rfl (hH.r 1 13 14 rfl) ?_
                  refine y_iload rfl rfl ?_
                  refine y_ialoadP (n := 6) rfl rfl (by unfold rg; omega) (fun w83 w84 => ?_)
                  have w85 : -2147483648 ≤ (Xi S 14 (((Xi S 18 ((z77).toNat))).toNat)) ∧ (Xi S 14 (((Xi S 18 ((z77).toNat))).toNat)) ≤ 2147483647 := Xi_rgI
                  refine y_callV rfl rfl rfl (t_re_isObjectList__p hH 0 v6 (Xi S 14 (((Xi S 18 ((z77).toNat))).toNat)) ⟨by omega, by omega⟩ ⟨by omega, by omega⟩ ⟨by omega, by omega⟩ (by first | assumption | omega) (by first | assumption | exact (CEN_FR hF rfl rfl (by assumption : CEN S))) (by first | assumption | omega) _) ?_
                  rintro _ _ ⟨rfl, z86, rfl, w86, v134⟩
                  show Pl _ _ _ _ _ _ [iv z86] _ _
                  have K134 : True := trivial
                  refine y_if_eq rfl rfl (by unfold rg; omega) (fun w87 => ?_) (fun w88 => ?_)
                  · refine y_iinc rfl rfl rfl rfl ?_
                    have Q173 : Hid (LIN S (Xi S 876 7 - 1) (v6 + 1) v3 v4 v5) := by first | (have u := K156; first | exact lin_y Q21.o (by omega) V97 (by omega) v134 (by omega) v156 (by omega) | exact lin_n Q21.o (by omega) (fun q => q.2.2 (by rw [← V97, show (((v6).toNat : Nat) : Int) = v6 by omega, ← v156]; omega))) | (have u := K134; exact lin_n Q21.o (by omega) (fun q => q.2.1 (by rw [← V97, show (((v6).toNat : Nat) : Int) = v6 by omega, ← v134]; omega))) | exact lin_n Q21.o (by omega) (fun q => q.1 (V97.symm.trans (by omega)))
                    refine y_goto rfl rfl ?_
                    exact Pl_weak (ih21 (by omega) (v1) (1) (v3) (v4) (v5) ((v6 + 1)) (by omega) (by omega) (by omega) (by omega) (by omega) (by omega) (by omega) (by omega) (by omega) (by first | exact F61 | rfl) (by first | exact Q173 | exact lin_0)) (by omega) (And.intro rfl (And.intro rfl (And.intro rfl (And.intro rfl (And.intro rfl (And.intro rfl (And.intro rfl (True.intro))))))))
                  · refine y_aload_n rfl rfl ?_
                    refine y_iload rfl rfl ?_
                    refine y_iconst rfl ?_
                    refine y_iadd rfl ?_
                    refine y_iload_n rfl rfl ?_
                    refine y_aload_n rfl rfl ?_
                    refine y_gfr rfl rfl rfl rfl rfl (hH.r 891 2 1 rfl) ?_
                    refine y_gfr rfl rfl rfl rfl rfl (hH.r 1 14 15 rfl) ?_
                    refine y_iload rfl rfl ?_
                    refine y_ialoadP (n := 6) rfl rfl (by unfold rg; omega) (fun w89 w90 => ?_)
                    have w91 : -2147483648 ≤ (Xi S 15 (((Xi S 18 ((z77).toNat))).toNat)) ∧ (Xi S 15 (((Xi S 18 ((z77).toNat))).toNat)) ≤ 2147483647 := Xi_rgI
                    refine y_callV rfl rfl rfl (t_re_isObjectList__p hH (v6 + 1) v1 (Xi S 15 (((Xi S 18 ((z77).toNat))).toNat)) ⟨by omega, by omega⟩ ⟨by omega, by omega⟩ ⟨by omega, by omega⟩ (by first | assumption | omega) (by first | assumption | exact (CEN_FR hF rfl rfl (by assumption : CEN S))) (by first | assumption | omega) _) ?_
                    rintro _ _ ⟨rfl, z92, rfl, w92, v156⟩
                    show Pl _ _ _ _ _ _ [iv z92] _ _
                    have K156 : True := trivial
                    rw [show v1 = Xi S 876 7 - 1 by omega] at v156
                    refine y_if_eq rfl rfl (by unfold rg; omega) (fun w93 => ?_) (fun w94 => ?_)
                    · refine y_iinc rfl rfl rfl rfl ?_
                      have Q173 : Hid (LIN S (Xi S 876 7 - 1) (v6 + 1) v3 v4 v5) := by first | (have u := K156; first | exact lin_y Q21.o (by omega) V97 (by omega) v134 (by omega) v156 (by omega) | exact lin_n Q21.o (by omega) (fun q => q.2.2 (by rw [← V97, show (((v6).toNat : Nat) : Int) = v6 by omega, ← v156]; omega))) | (have u := K134; exact lin_n Q21.o (by omega) (fun q => q.2.1 (by rw [← V97, show (((v6).toNat : Nat) : Int) = v6 by omega, ← v134]; omega))) | exact lin_n Q21.o (by omega) (fun q => q.1 (V97.symm.trans (by omega)))
                      refine y_goto rfl rfl ?_
                      exact Pl_weak (ih21 (by omega) (v1) (1) (v3) (v4) (v5) ((v6 + 1)) (by omega) (by omega) (by omega) (by omega) (by omega) (by omega) (by omega) (by omega) (by omega) (by first | exact F61 | rfl) (by first | exact Q173 | exact lin_0)) (by omega) (And.intro rfl (And.intro rfl (And.intro rfl (And.intro rfl (And.intro rfl (And.intro rfl (And.intro rfl (True.intro))))))))
                    · refine y_iload rfl rfl ?_
                      refine y_istore rfl rfl rfl ?_
                      refine y_iload rfl rfl ?_
                      refine y_istore rfl rfl rfl ?_
                      refine y_iinc rfl rfl rfl rfl ?_
                      refine y_iinc rfl rfl rfl rfl ?_
                      have Q173 : Hid (LIN S (Xi S 876 7 - 1) (v6 + 1) (v3 + 1) v6 (Xi S 18 ((z77).toNat))) := by first | (have u := K156; first | exact lin_y Q21.o (by omega) V97 (by omega) v134 (by omega) v156 (by omega) | exact lin_n Q21.o (by omega) (fun q => q.2.2 (by rw [← V97, show (((v6).toNat : Nat) : Int) = v6 by omega, ← v156]; omega))) | (have u := K134; exact lin_n Q21.o (by omega) (fun q => q.2.1 (by rw [← V97, show (((v6).toNat : Nat) : Int) = v6 by omega, ← v134]; omega))) | exact lin_n Q21.o (by omega) (fun q => q.1 (V97.symm.trans (by omega)))
                      refine y_goto rfl rfl ?_
                      exact Pl_weak (ih21 (by omega) (v1) (1) ((v3 + 1)) (v6) ((Xi S 18 ((z77).toNat))) ((v6 + 1)) (by omega) (by omega) (by omega) (by omega) (by omega) (by omega) (by omega) (by omega) (by omega) (by first | exact F61 | rfl) (by first | exact Q173 | exact lin_0)) (by omega) (And.intro rfl (And.intro rfl (And.intro rfl (And.intro rfl (And.intro rfl (And.intro rfl (And.intro rfl (True.intro))))))))
                · refine y_goto rfl rfl ?_
                  refine y_iinc rfl rfl rfl rfl ?_
                  have Q173 : Hid (LIN S (Xi S 876 7 - 1) (v6 + 1) v3 v4 v5) := by first | (have u := K156; first | exact lin_y Q21.o (by omega) V97 (by omega) v134 (by omega) v156 (by omega) | exact lin_n Q21.o (by omega) (fun q => q.2.2 (by rw [← V97, show (((v6).toNat : Nat) : Int) = v6 by omega, ← v156]; omega))) | (have u := K134; exact lin_n Q21.o (by omega) (fun q => q.2.1 (by rw [← V97, show (((v6).toNat : Nat) : Int) = v6 by omega, ← v134]; omega))) | exact lin_n Q21.o (by omega) (fun q => q.1 (V97.symm.trans (by omega)))
                  refine y_goto rfl rfl ?_
                  exact Pl_weak (ih21 (by omega) (v1) (1) (v3) (v4) (v5) ((v6 + 1)) (by omega) (by omega) (by omega) (by omega) (by omega) (by omega) (by omega) (by omega) (by omega) (by first | exact F61 | rfl) (by first | exact Q173 | exact lin_0)) (by omega) (And.intro rfl (And.intro rfl (And.intro rfl (And.intro rfl (And.intro rfl (And.intro rfl (And.intro rfl (True.intro))))))))
          · refine y_iload rfl rfl ?_
            refine y_bipush rfl rfl ?_
            refine y_icmp_ne rfl rfl (by unfold rg; omega) (by unfold rg; omega) (fun w95 => ?_) (fun w96 => ?_)
            · refine y_iconst rfl ?_
              refine y_istore_n rfl rfl rfl ?_
              have F61 : 0 = fl7 (ty7 S) (v6 + 1).toNat := by rw [show (v6 + 1).toNat = (v6).toNat + 1 by omega]; show _ = (if fl7 (ty7 S) (v6).toNat ≠ 0 ∨ ty7 S ((v6).toNat : Int) = 16 ∨ ty7 S ((v6).toNat : Int) = 104 then (1 : Int) else 0); rw [← F21, show (((v6).toNat : Nat) : Int) = v6 by omega, gq33]; first | (rw [if_pos (by omega)]) | (rw [if_neg (by omega)])
              refine y_iload rfl rfl ?_
              refine y_bipush rfl rfl ?_
              refine y_icmp_ne rfl rfl (by unfold rg; omega) (by unfold rg; omega) (fun w97 => ?_) (fun w98 => ?_)
              · refine y_iconst rfl ?_
                refine y_istore rfl rfl rfl ?_
                have V97 : (-1) = vbL S (v6).toNat := by first | (have u := K90; exact vb_y (by omega) (by rw [gq33]; omega) F61 v90 (by omega)) | exact vb_n (by omega) (by rw [gq33]; omega)
                refine y_iload rfl rfl ?_
                refine y_iconst rfl ?_
                refine y_icmp_ne rfl rfl (by unfold rg; omega) (by unfold rg; omega) (fun w99 => absurd w99 (by omega)) (fun w100 => ?_)
                · refine y_goto rfl rfl ?_
                  refine y_iinc rfl rfl rfl rfl ?_
                  have Q173 : Hid (LIN S (Xi S 876 7 - 1) (v6 + 1) v3 v4 v5) := by first | (have u := K156; first | exact lin_y Q21.o (by omega) V97 (by omega) v134 (by omega) v156 (by omega) | exact lin_n Q21.o (by omega) (fun q => q.2.2 (by rw [← V97, show (((v6).toNat : Nat) : Int) = v6 by omega, ← v156]; omega))) | (have u := K134; exact lin_n Q21.o (by omega) (fun q => q.2.1 (by rw [← V97, show (((v6).toNat : Nat) : Int) = v6 by omega, ← v134]; omega))) | exact lin_n Q21.o (by omega) (fun q => q.1 (V97.symm.trans (by omega)))
                  refine y_goto rfl rfl ?_
                  exact Pl_weak (ih21 (by omega) (v1) (0) (v3) (v4) (v5) ((v6 + 1)) (by omega) (by omega) (by omega) (by omega) (by omega) (by omega) (by omega) (by omega) (by omega) (by first | exact F61 | rfl) (by first | exact Q173 | exact lin_0)) (by omega) (And.intro rfl (And.intro rfl (And.intro rfl (And.intro rfl (And.intro rfl (And.intro rfl (And.intro rfl (True.intro))))))))
              · refine y_aload_n rfl rfl ?_
                refine y_gfr rfl rfl rfl rfl rfl (hH.r 891 4 895 rfl) ?_
                refine y_iload_n rfl rfl ?_
                refine y_if_eq rfl rfl (by unfold rg; omega) (fun w101 => ?_) (fun w102 => absurd w102 (by omega))
                · refine y_bipush rfl rfl ?_
                  refine y_iload rfl rfl ?_
                  refine y_iload rfl rfl ?_
                  refine y_iconst rfl ?_
                  refine y_iadd rfl ?_
                  refine y_callV rfl rfl rfl (t_me_find__p hH 13 v6 (v6 + 1) ⟨by omega, by omega⟩ ⟨by omega, by omega⟩ ⟨by omega, by omega⟩ (by first | assumption | omega) (by first | assumption | exact (CEN_FR hF rfl rfl (by assumption : CEN S))) _) ?_
                  rintro _ _ ⟨rfl, z103, rfl, w103, v90⟩
                  show Pl _ _ _ _ _ _ [iv z103] _ _
                  have K90 : True := trivial
                  refine y_goto rfl rfl ?_
                  refine y_istore rfl rfl rfl ?_
                  have V97 : z103 = vbL S (v6).toNat := by first | (have u := K90; exact vb_y (by omega) (by rw [gq33]; omega) F61 v90 (by omega)) | exact vb_n (by omega) (by rw [gq33]; omega)
                  refine y_iload rfl rfl ?_
                  refine y_iconst rfl ?_
                  refine y_icmp_ne rfl rfl (by unfold rg; omega) (by unfold rg; omega) (fun w104 => ?_) (fun w105 => ?_)
                  · refine y_aload_n rfl rfl ?_
                    refine y_gfr rfl rfl rfl rfl rfl (hH.r 891 2 1 rfl) ?_
                    refine y_gfr rfl rfl rfl rfl rfl (hH.r 1 17 18 rfl) ?_
                    refine y_iload rfl rfl ?_
                    refine y_ialoadP (n := 8) rfl rfl (by unfold rg; omega) (fun w106 w107 => ?_)
                    have w108 : -2147483648 ≤ (Xi S 18 ((z103).toNat)) ∧ (Xi S 18 ((z103).toNat)) ≤ 2147483647 := Xi_rgI
                    refine y_istore rfl rfl rfl ?_
                    refine y_aload_n rfl rfl ?_
                    refine y_iconst rfl ?_
                    refine y_iload rfl rfl ?_
                    refine y_aload_n rfl rfl ?_
                    refine y_gfr rfl rfl rfl rfl rfl (hH.r 891 2 1 rfl) ?_
                    refine y_gfr rfl rfl rfl rfl rfl (hH.r 1 13 14 rfl) ?_
                    refine y_iload rfl rfl ?_
                    refine y_ialoadP (n := 6) rfl rfl (by unfold rg; omega) (fun w109 w110 => ?_)
                    have w111 : -2147483648 ≤ (Xi S 14 (((Xi S 18 ((z103).toNat))).toNat)) ∧ (Xi S 14 (((Xi S 18 ((z103).toNat))).toNat)) ≤ 2147483647 := Xi_rgI
                    refine y_callV rfl rfl rfl (t_re_isObjectList__p hH 0 v6 (Xi S 14 (((Xi S 18 ((z103).toNat))).toNat)) ⟨by omega, by omega⟩ ⟨by omega, by omega⟩ ⟨by omega, by omega⟩ (by first | assumption | omega) (by first | assumption | exact (CEN_FR hF rfl rfl (by assumption : CEN S))) (by first | assumption | omega) _) ?_
                    rintro _ _ ⟨rfl, z112, rfl, w112, v134⟩
                    show Pl _ _ _ _ _ _ [iv z112] _ _
                    have K134 : True := trivial
                    refine y_if_eq rfl rfl (by unfold rg; omega) (fun w113 => ?_) (fun w114 => ?_)
                    · refine y_iinc rfl rfl rfl rfl ?_
                      have Q173 : Hid (LIN S (Xi S 876 7 - 1) (v6 + 1) v3 v4 v5) := by first | (have u := K156; first | exact lin_y Q21.o (by omega) V97 (by omega) v134 (by omega) v156 (by omega) | exact lin_n Q21.o (by omega) (fun q => q.2.2 (by rw [← V97, show (((v6).toNat : Nat) : Int) = v6 by omega, ← v156]; omega))) | (have u := K134; exact lin_n Q21.o (by omega) (fun q => q.2.1 (by rw [← V97, show (((v6).toNat : Nat) : Int) = v6 by omega, ← v134]; omega))) | exact lin_n Q21.o (by omega) (fun q => q.1 (V97.symm.trans (by omega)))
                      refine y_goto rfl rfl ?_
                      exact Pl_weak (ih21 (by omega) (v1) (0) (v3) (v4) (v5) ((v6 + 1)) (by omega) (by omega) (by omega) (by omega) (by omega) (by omega) (by omega) (by omega) (by omega) (by first | exact F61 | rfl) (by first | exact Q173 | exact lin_0)) (by omega) (And.intro rfl (And.intro rfl (And.intro rfl (And.intro rfl (And.intro rfl (And.intro rfl (And.intro rfl (True.intro))))))))
                    · refine y_aload_n rfl rfl ?_
                      refine y_iload rfl rfl ?_
                      refine y_iconst rfl ?_
                      refine y_iadd rfl ?_
                      refine y_iload_n rfl rfl ?_
                      refine y_aload_n rfl rfl ?_
                      refine y_gfr rfl rfl rfl rfl rfl (hH.r 891 2 1 rfl) ?_
                      refine y_gfr rfl rfl rfl rfl rfl (hH.r 1 14 15 rfl) ?_
                      refine y_iload rfl rfl ?_
                      refine y_ialoadP (n := 6) rfl rfl (by unfold rg; omega) (fun w115 w116 => ?_)
                      have w117 : -2147483648 ≤ (Xi S 15 (((Xi S 18 ((z103).toNat))).toNat)) ∧ (Xi S 15 (((Xi S 18 ((z103).toNat))).toNat)) ≤ 2147483647 := Xi_rgI
                      refine y_callV rfl rfl rfl (t_re_isObjectList__p hH (v6 + 1) v1 (Xi S 15 (((Xi S 18 ((z103).toNat))).toNat)) ⟨by omega, by omega⟩ ⟨by omega, by omega⟩ ⟨by omega, by omega⟩ (by first | assumption | omega) (by first | assumption | exact (CEN_FR hF rfl rfl (by assumption : CEN S))) (by first | assumption | omega) _) ?_
                      rintro _ _ ⟨rfl, z118, rfl, w118, v156⟩
                      show Pl _ _ _ _ _ _ [iv z118] _ _
                      have K156 : True := trivial
                      rw [show v1 = Xi S 876 7 - 1 by omega] at v156
                      refine y_if_eq rfl rfl (by unfold rg; omega) (fun w119 => ?_) (fun w120 => ?_)
                      · refine y_iinc rfl rfl rfl rfl ?_
                        have Q173 : Hid (LIN S (Xi S 876 7 - 1) (v6 + 1) v3 v4 v5) := by first | (have u := K156; first | exact lin_y Q21.o (by omega) V97 (by omega) v134 (by omega) v156 (by omega) | exact lin_n Q21.o (by omega) (fun q => q.2.2 (by rw [← V97, show (((v6).toNat : Nat) : Int) = v6 by omega, ← v156]; omega))) | (have u := K134; exact lin_n Q21.o (by omega) (fun q => q.2.1 (by rw [← V97, show (((v6).toNat : Nat) : Int) = v6 by omega, ← v134]; omega))) | exact lin_n Q21.o (by omega) (fun q => q.1 (V97.symm.trans (by omega)))
                        refine y_goto rfl rfl ?_
                        exact Pl_weak (ih21 (by omega) (v1) (0) (v3) (v4) (v5) ((v6 + 1)) (by omega) (by omega) (by omega) (by omega) (by omega) (by omega) (by omega) (by omega) (by omega) (by first | exact F61 | rfl) (by first | exact Q173 | exact lin_0)) (by omega) (And.intro rfl (And.intro rfl (And.intro rfl (And.intro rfl (And.intro rfl (And.intro rfl (And.intro rfl (True.intro))))))))
                      · refine y_iload rfl rfl ?_
                        refine y_istore rfl rfl rfl ?_
                        refine y_iload rfl rfl ?_
                        refine y_istore rfl rfl rfl ?_
                        refine y_iinc rfl rfl rfl rfl ?_
                        refine y_iinc rfl rfl rfl rfl ?_
                        have Q173 : Hid (LIN S (Xi S 876 7 - 1) (v6 + 1) (v3 + 1) v6 (Xi S 18 ((z103).toNat))) := by first | (have u := K156; first | exact lin_y Q21.o (by omega) V97 (by omega) v134 (by omega) v156 (by omega) | exact lin_n Q21.o (by omega) (fun q => q.2.2 (by rw [← V97, show (((v6).toNat : Nat) : Int) = v6 by omega, ← v156]; omega))) | (have u := K134; exact lin_n Q21.o (by omega) (fun q => q.2.1 (by rw [← V97, show (((v6).toNat : Nat) : Int) = v6 by omega, ← v134]; omega))) | exact lin_n Q21.o (by omega) (fun q => q.1 (V97.symm.trans (by omega)))
                        refine y_goto rfl rfl ?_
                        exact Pl_weak (ih21 (by omega) (v1) (0) ((v3 + 1)) (v6) ((Xi S 18 ((z103).toNat))) ((v6 + 1)) (by omega) (by omega) (by omega) (by omega) (by omega) (by omega) (by omega) (by omega) (by omega) (by first | exact F61 | rfl) (by first | exact Q173 | exact lin_0)) (by omega) (And.intro rfl (And.intro rfl (And.intro rfl (And.intro rfl (And.intro rfl (And.intro rfl (And.intro rfl (True.intro))))))))
                  · refine y_goto rfl rfl ?_
                    refine y_iinc rfl rfl rfl rfl ?_
                    have Q173 : Hid (LIN S (Xi S 876 7 - 1) (v6 + 1) v3 v4 v5) := by first | (have u := K156; first | exact lin_y Q21.o (by omega) V97 (by omega) v134 (by omega) v156 (by omega) | exact lin_n Q21.o (by omega) (fun q => q.2.2 (by rw [← V97, show (((v6).toNat : Nat) : Int) = v6 by omega, ← v156]; omega))) | (have u := K134; exact lin_n Q21.o (by omega) (fun q => q.2.1 (by rw [← V97, show (((v6).toNat : Nat) : Int) = v6 by omega, ← v134]; omega))) | exact lin_n Q21.o (by omega) (fun q => q.1 (V97.symm.trans (by omega)))
                    refine y_goto rfl rfl ?_
                    exact Pl_weak (ih21 (by omega) (v1) (0) (v3) (v4) (v5) ((v6 + 1)) (by omega) (by omega) (by omega) (by omega) (by omega) (by omega) (by omega) (by omega) (by omega) (by first | exact F61 | rfl) (by first | exact Q173 | exact lin_0)) (by omega) (And.intro rfl (And.intro rfl (And.intro rfl (And.intro rfl (And.intro rfl (And.intro rfl (And.intro rfl (True.intro))))))))
            · refine y_iconst rfl ?_
              refine y_goto rfl rfl ?_
              refine y_istore_n rfl rfl rfl ?_
              have F61 : 1 = fl7 (ty7 S) (v6 + 1).toNat := by rw [show (v6 + 1).toNat = (v6).toNat + 1 by omega]; show _ = (if fl7 (ty7 S) (v6).toNat ≠ 0 ∨ ty7 S ((v6).toNat : Int) = 16 ∨ ty7 S ((v6).toNat : Int) = 104 then (1 : Int) else 0); rw [← F21, show (((v6).toNat : Nat) : Int) = v6 by omega, gq33]; first | (rw [if_pos (by omega)]) | (rw [if_neg (by omega)])
              refine y_iload rfl rfl ?_
              refine y_bipush rfl rfl ?_
              refine y_icmp_ne rfl rfl (by unfold rg; omega) (by unfold rg; omega) (fun w121 => ?_) (fun w122 => ?_)
              · refine y_iconst rfl ?_
                refine y_istore rfl rfl rfl ?_
                have V97 : (-1) = vbL S (v6).toNat := by first | (have u := K90; exact vb_y (by omega) (by rw [gq33]; omega) F61 v90 (by omega)) | exact vb_n (by omega) (by rw [gq33]; omega)
                refine y_iload rfl rfl ?_
                refine y_iconst rfl ?_
                refine y_icmp_ne rfl rfl (by unfold rg; omega) (by unfold rg; omega) (fun w123 => absurd w123 (by omega)) (fun w124 => ?_)
                · refine y_goto rfl rfl ?_
                  refine y_iinc rfl rfl rfl rfl ?_
                  have Q173 : Hid (LIN S (Xi S 876 7 - 1) (v6 + 1) v3 v4 v5) := by first | (have u := K156; first | exact lin_y Q21.o (by omega) V97 (by omega) v134 (by omega) v156 (by omega) | exact lin_n Q21.o (by omega) (fun q => q.2.2 (by rw [← V97, show (((v6).toNat : Nat) : Int) = v6 by omega, ← v156]; omega))) | (have u := K134; exact lin_n Q21.o (by omega) (fun q => q.2.1 (by rw [← V97, show (((v6).toNat : Nat) : Int) = v6 by omega, ← v134]; omega))) | exact lin_n Q21.o (by omega) (fun q => q.1 (V97.symm.trans (by omega)))
                  refine y_goto rfl rfl ?_
                  exact Pl_weak (ih21 (by omega) (v1) (1) (v3) (v4) (v5) ((v6 + 1)) (by omega) (by omega) (by omega) (by omega) (by omega) (by omega) (by omega) (by omega) (by omega) (by first | exact F61 | rfl) (by first | exact Q173 | exact lin_0)) (by omega) (And.intro rfl (And.intro rfl (And.intro rfl (And.intro rfl (And.intro rfl (And.intro rfl (And.intro rfl (True.intro))))))))
              · refine y_aload_n rfl rfl ?_
                refine y_gfr rfl rfl rfl rfl rfl (hH.r 891 4 895 rfl) ?_
                refine y_iload_n rfl rfl ?_
                refine y_if_eq rfl rfl (by unfold rg; omega) (fun w125 => absurd w125 (by omega)) (fun w126 => ?_)
                · refine y_bipush rfl rfl ?_
                  refine y_goto rfl rfl ?_
                  refine y_iload rfl rfl ?_
                  refine y_iload rfl rfl ?_
                  refine y_iconst rfl ?_
                  refine y_iadd rfl ?_
                  refine y_callV rfl rfl rfl (t_me_find__p hH 7 v6 (v6 + 1) ⟨by omega, by omega⟩ ⟨by omega, by omega⟩ ⟨by omega, by omega⟩ (by first | assumption | omega) (by first | assumption | exact (CEN_FR hF rfl rfl (by assumption : CEN S))) _) ?_
                  rintro _ _ ⟨rfl, z127, rfl, w127, v90⟩
                  show Pl _ _ _ _ _ _ [iv z127] _ _
                  have K90 : True := trivial
                  refine y_goto rfl rfl ?_
                  refine y_istore rfl rfl rfl ?_
                  have V97 : z127 = vbL S (v6).toNat := by first | (have u := K90; exact vb_y (by omega) (by rw [gq33]; omega) F61 v90 (by omega)) | exact vb_n (by omega) (by rw [gq33]; omega)
                  refine y_iload rfl rfl ?_
                  refine y_iconst rfl ?_
                  refine y_icmp_ne rfl rfl (by unfold rg; omega) (by unfold rg; omega) (fun w128 => ?_) (fun w129 => ?_)
                  · refine y_aload_n rfl rfl ?_
                    refine y_gfr rfl rfl rfl rfl rfl (hH.r 891 2 1 rfl) ?_
                    refine y_gfr rfl rfl rfl rfl rfl (hH.r 1 17 18 rfl) ?_
                    refine y_iload rfl rfl ?_
                    refine y_ialoadP (n := 8) rfl rfl (by unfold rg; omega) (fun w130 w131 => ?_)
                    have w132 : -2147483648 ≤ (Xi S 18 ((z127).toNat)) ∧ (Xi S 18 ((z127).toNat)) ≤ 2147483647 := Xi_rgI
                    refine y_istore rfl rfl rfl ?_
                    refine y_aload_n rfl rfl ?_
                    refine y_iconst rfl ?_
                    refine y_iload rfl rfl ?_
                    refine y_aload_n rfl rfl ?_
                    refine y_gfr rfl rfl rfl rfl rfl (hH.r 891 2 1 rfl) ?_
                    refine y_gfr rfl rfl rfl rfl rfl (hH.r 1 13 14 rfl) ?_
                    refine y_iload rfl rfl ?_
                    refine y_ialoadP (n := 6) rfl rfl (by unfold rg; omega) (fun w133 w134 => ?_)
                    have w135 : -2147483648 ≤ (Xi S 14 (((Xi S 18 ((z127).toNat))).toNat)) ∧ (Xi S 14 (((Xi S 18 ((z127).toNat))).toNat)) ≤ 2147483647 := Xi_rgI
                    refine y_callV rfl rfl rfl (t_re_isObjectList__p hH 0 v6 (Xi S 14 (((Xi S 18 ((z127).toNat))).toNat)) ⟨by omega, by omega⟩ ⟨by omega, by omega⟩ ⟨by omega, by omega⟩ (by first | assumption | omega) (by first | assumption | exact (CEN_FR hF rfl rfl (by assumption : CEN S))) (by first | assumption | omega) _) ?_
                    rintro _ _ ⟨rfl, z136, rfl, w136, v134⟩
                    show Pl _ _ _ _ _ _ [iv z136] _ _
                    have K134 : True := trivial
                    refine y_if_eq rfl rfl (by unfold rg; omega) (fun w137 => ?_) (fun w138 => ?_)
                    · refine y_iinc rfl rfl rfl rfl ?_
                      have Q173 : Hid (LIN S (Xi S 876 7 - 1) (v6 + 1) v3 v4 v5) := by first | (have u := K156; first | exact lin_y Q21.o (by omega) V97 (by omega) v134 (by omega) v156 (by omega) | exact lin_n Q21.o (by omega) (fun q => q.2.2 (by rw [← V97, show (((v6).toNat : Nat) : Int) = v6 by omega, ← v156]; omega))) | (have u := K134; exact lin_n Q21.o (by omega) (fun q => q.2.1 (by rw [← V97, show (((v6).toNat : Nat) : Int) = v6 by omega, ← v134]; omega))) | exact lin_n Q21.o (by omega) (fun q => q.1 (V97.symm.trans (by omega)))
                      refine y_goto rfl rfl ?_
                      exact Pl_weak (ih21 (by omega) (v1) (1) (v3) (v4) (v5) ((v6 + 1)) (by omega) (by omega) (by omega) (by omega) (by omega) (by omega) (by omega) (by omega) (by omega) (by first | exact F61 | rfl) (by first | exact Q173 | exact lin_0)) (by omega) (And.intro rfl (And.intro rfl (And.intro rfl (And.intro rfl (And.intro rfl (And.intro rfl (And.intro rfl (True.intro))))))))
                    · refine y_aload_n rfl rfl ?_
                      refine y_iload rfl rfl ?_
                      refine y_iconst rfl ?_
                      refine y_iadd rfl ?_
                      refine y_iload_n rfl rfl ?_
                      refine y_aload_n rfl rfl ?_
                      refine y_gfr rfl rfl rfl rfl rfl (hH.r 891 2 1 rfl) ?_
                      refine y_gfr rfl rfl rfl rfl rfl (hH.r 1 14 15 rfl) ?_
                      refine y_iload rfl rfl ?_
                      refine y_ialoadP (n := 6) rfl rfl (by unfold rg; omega) (fun w139 w140 => ?_)
                      have w141 : -2147483648 ≤ (Xi S 15 (((Xi S 18 ((z127).toNat))).toNat)) ∧ (Xi S 15 (((Xi S 18 ((z127).toNat))).toNat)) ≤ 2147483647 := Xi_rgI
                      refine y_callV rfl rfl rfl (t_re_isObjectList__p hH (v6 + 1) v1 (Xi S 15 (((Xi S 18 ((z127).toNat))).toNat)) ⟨by omega, by omega⟩ ⟨by omega, by omega⟩ ⟨by omega, by omega⟩ (by first | assumption | omega) (by first | assumption | exact (CEN_FR hF rfl rfl (by assumption : CEN S))) (by first | assumption | omega) _) ?_
                      rintro _ _ ⟨rfl, z142, rfl, w142, v156⟩
                      show Pl _ _ _ _ _ _ [iv z142] _ _
                      have K156 : True := trivial
                      rw [show v1 = Xi S 876 7 - 1 by omega] at v156
                      refine y_if_eq rfl rfl (by unfold rg; omega) (fun w143 => ?_) (fun w144 => ?_)
                      · refine y_iinc rfl rfl rfl rfl ?_
                        have Q173 : Hid (LIN S (Xi S 876 7 - 1) (v6 + 1) v3 v4 v5) := by first | (have u := K156; first | exact lin_y Q21.o (by omega) V97 (by omega) v134 (by omega) v156 (by omega) | exact lin_n Q21.o (by omega) (fun q => q.2.2 (by rw [← V97, show (((v6).toNat : Nat) : Int) = v6 by omega, ← v156]; omega))) | (have u := K134; exact lin_n Q21.o (by omega) (fun q => q.2.1 (by rw [← V97, show (((v6).toNat : Nat) : Int) = v6 by omega, ← v134]; omega))) | exact lin_n Q21.o (by omega) (fun q => q.1 (V97.symm.trans (by omega)))
                        refine y_goto rfl rfl ?_
                        exact Pl_weak (ih21 (by omega) (v1) (1) (v3) (v4) (v5) ((v6 + 1)) (by omega) (by omega) (by omega) (by omega) (by omega) (by omega) (by omega) (by omega) (by omega) (by first | exact F61 | rfl) (by first | exact Q173 | exact lin_0)) (by omega) (And.intro rfl (And.intro rfl (And.intro rfl (And.intro rfl (And.intro rfl (And.intro rfl (And.intro rfl (True.intro))))))))
                      · refine y_iload rfl rfl ?_
                        refine y_istore rfl rfl rfl ?_
                        refine y_iload rfl rfl ?_
                        refine y_istore rfl rfl rfl ?_
                        refine y_iinc rfl rfl rfl rfl ?_
                        refine y_iinc rfl rfl rfl rfl ?_
                        have Q173 : Hid (LIN S (Xi S 876 7 - 1) (v6 + 1) (v3 + 1) v6 (Xi S 18 ((z127).toNat))) := by first | (have u := K156; first | exact lin_y Q21.o (by omega) V97 (by omega) v134 (by omega) v156 (by omega) | exact lin_n Q21.o (by omega) (fun q => q.2.2 (by rw [← V97, show (((v6).toNat : Nat) : Int) = v6 by omega, ← v156]; omega))) | (have u := K134; exact lin_n Q21.o (by omega) (fun q => q.2.1 (by rw [← V97, show (((v6).toNat : Nat) : Int) = v6 by omega, ← v134]; omega))) | exact lin_n Q21.o (by omega) (fun q => q.1 (V97.symm.trans (by omega)))
                        refine y_goto rfl rfl ?_
                        exact Pl_weak (ih21 (by omega) (v1) (1) ((v3 + 1)) (v6) ((Xi S 18 ((z127).toNat))) ((v6 + 1)) (by omega) (by omega) (by omega) (by omega) (by omega) (by omega) (by omega) (by omega) (by omega) (by first | exact F61 | rfl) (by first | exact Q173 | exact lin_0)) (by omega) (And.intro rfl (And.intro rfl (And.intro rfl (And.intro rfl (And.intro rfl (And.intro rfl (And.intro rfl (True.intro))))))))
                  · refine y_goto rfl rfl ?_
                    refine y_iinc rfl rfl rfl rfl ?_
                    have Q173 : Hid (LIN S (Xi S 876 7 - 1) (v6 + 1) v3 v4 v5) := by first | (have u := K156; first | exact lin_y Q21.o (by omega) V97 (by omega) v134 (by omega) v156 (by omega) | exact lin_n Q21.o (by omega) (fun q => q.2.2 (by rw [← V97, show (((v6).toNat : Nat) : Int) = v6 by omega, ← v156]; omega))) | (have u := K134; exact lin_n Q21.o (by omega) (fun q => q.2.1 (by rw [← V97, show (((v6).toNat : Nat) : Int) = v6 by omega, ← v134]; omega))) | exact lin_n Q21.o (by omega) (fun q => q.1 (V97.symm.trans (by omega)))
                    refine y_goto rfl rfl ?_
                    exact Pl_weak (ih21 (by omega) (v1) (1) (v3) (v4) (v5) ((v6 + 1)) (by omega) (by omega) (by omega) (by omega) (by omega) (by omega) (by omega) (by omega) (by omega) (by first | exact F61 | rfl) (by first | exact Q173 | exact lin_0)) (by omega) (And.intro rfl (And.intro rfl (And.intro rfl (And.intro rfl (And.intro rfl (And.intro rfl (And.intro rfl (True.intro))))))))
  refine y_aload_n rfl rfl ?_
  refine y_gfr rfl rfl rfl rfl rfl (hH.r 891 0 876 rfl) ?_
  refine y_callV rfl rfl rfl (t_to_lastRow__p hH (by first | assumption | omega) _) ?_
  rintro _ _ ⟨rfl, z146, rfl, w146, w145⟩
  show Pl _ _ _ _ _ _ [iv z146] _ _
  refine y_istore_n rfl rfl rfl ?_
  refine y_iconst rfl ?_
  refine y_istore_n rfl rfl rfl ?_
  refine y_iconst rfl ?_
  refine y_istore_n rfl rfl rfl ?_
  refine y_iconst rfl ?_
  refine y_istore rfl rfl rfl ?_
  refine y_iconst rfl ?_
  refine y_istore rfl rfl rfl ?_
  refine y_iconst rfl ?_
  refine y_istore rfl rfl rfl ?_
  exact Pl_weak (C21 fu (by omega) (z146) (0) (0) ((-1)) ((-1)) (0) (by omega) (by omega) (by omega) (by omega) (by omega) (by omega) (by omega) (by omega) (by omega) (by first | exact F61 | rfl) (by first | exact Q173 | exact lin_0)) (by omega) (And.intro rfl (And.intro rfl (And.intro rfl (And.intro rfl (And.intro rfl (And.intro rfl (And.intro rfl (True.intro))))))))
end
