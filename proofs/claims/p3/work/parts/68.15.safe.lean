/-! SAFETY: what words mean as adjectives and descriptions, as functions of the cells -/
def rvn (S : sS) (has t : Int) : Nat → Int → Int → Int
  | 0, _, c => c
  | n + 1, p, c => rvn S has t n (p + 1) (if iandF (ishrF has p) 1 = 1 ∧ Xi S 9 p.toNat = t then c + 1 else c)
def raF (S : sS) (k a b vals dfd : Int) : Int :=
  if mnV S a b / 256 = 3 then (if isK S k (Xi S 10 (mnV S a b % 256).toNat) ≠ 0 ∧ (dfd ≠ 0 ∨ Xi S 11 (mnV S a b % 256).toNat ≠ -1) then 1 else 0)
  else if mnV S a b / 256 ≠ 4 ∨ vals = 0 then 0 else rvn S (pps S k) (Xi S 8 (mnV S a b % 256).toNat) 12 0 0
theorem rvn_y {S : sS} {has t p c : Int} (hp : p < 12) (h : iandF (ishrF has p) 1 = 1 ∧ Xi S 9 p.toNat = t) : rvn S has t (12 - p).toNat p c = rvn S has t (12 - (p + 1)).toNat (p + 1) (c + 1) := by
  rw [tn_s hp]; show rvn S has t _ (p + 1) (if _ then _ else _) = _; rw [if_pos h]
theorem rvn_n {S : sS} {has t p c : Int} (hp : p < 12) (h : ¬ (iandF (ishrF has p) 1 = 1 ∧ Xi S 9 p.toNat = t)) : rvn S has t (12 - p).toNat p c = rvn S has t (12 - (p + 1)).toNat (p + 1) c := by
  rw [tn_s hp]; show rvn S has t _ (p + 1) (if _ then _ else _) = _; rw [if_neg h]
theorem rvn_e {S : sS} {has t p c : Int} (hp : 12 ≤ p) : rvn S has t (12 - p).toNat p c = c := by rw [tn_z hp]; rfl
theorem rvn_b {S : sS} {has t : Int} : ∀ (n : Nat) (p c : Int), c ≤ rvn S has t n p c ∧ rvn S has t n p c ≤ c + n := by
  intro n
  induction n with
  | zero => intro p c; exact ⟨Int.le_refl _, by show c ≤ c + ((0 : Nat) : Int); omega⟩
  | succ n ih =>
    intro p c
    unfold rvn
    have h := ih (p + 1) (if iandF (ishrF has p) 1 = 1 ∧ Xi S 9 p.toNat = t then c + 1 else c)
    split at h <;> (split <;> first | omega | contradiction)
theorem raF_b {S : sS} {k a b v d : Int} : 0 ≤ raF S k a b v d ∧ raF S k a b v d ≤ 12 := by
  unfold raF
  split
  · split <;> omega
  · split
    · omega
    · have h := rvn_b (S := S) (has := pps S k) (t := Xi S 8 (mnV S a b % 256).toNat) 12 0 0
      omega
theorem isKn_fr {S T : sS} (h : ∀ j, Xi T 6 j = Xi S 6 j) {o : Int} : ∀ (n : Nat) (k : Int), isKn T o n k = isKn S o n k := by
  intro n
  induction n with
  | zero => intro k; rfl
  | succ n ih => intro k; unfold isKn; rw [h, ih]
theorem ppn_fr {S T : sS} (h : ∀ j, Xi T 6 j = Xi S 6 j) (h7 : ∀ j, Xi T 7 j = Xi S 7 j) : ∀ (n : Nat) (k a : Int), ppn T n k a = ppn S n k a := by
  intro n
  induction n with
  | zero => intro k a; rfl
  | succ n ih => intro k a; unfold ppn; rw [h, h7, ih]
theorem rvn_fr {S T : sS} (h : ∀ j, Xi T 9 j = Xi S 9 j) {has t : Int} : ∀ (n : Nat) (p c : Int), rvn T has t n p c = rvn S has t n p c := by
  intro n
  induction n with
  | zero => intro p c; rfl
  | succ n ih => intro p c; unfold rvn; rw [h, ih]
theorem msc_fr {S T : sS} (h2 : ∀ j, Xj T 2 j = Xj S 2 j) (h3 : ∀ j, Xi T 3 j = Xi S 3 j) (h4 : ∀ j, Xi T 4 j = Xi S 4 j) {a b c : Int} : ∀ (m i : Nat), msc T a b c m i = msc S a b c m i := by
  intro m
  induction m with
  | zero => intro i; rfl
  | succ m ih => intro i; unfold msc; rw [h2, h2, h2, h3, h4, ih]
def kA : List (Nat × Nat) := [(2, 5), (6, 12), (879, 880)]
theorem mnV_FR {l : List rec} {S T : sS} (h : FR l S T) (e : (kdis l kA && !(mdf l 1 3)) = true) {a b : Int} : mnV T a b = mnV S a b := by
  simp only [Bool.and_eq_true, Bool.not_eq_true'] at e
  have k := h.smk e.1
  have hj : ∀ c j, inK kA c = true → Xj T c j = Xj S c j := fun c j hc => by unfold Xj; rw [(k c j hc).2.1]
  unfold mnV mnR mnF
  rw [h.x 1 3 e.2, hj 879 _ rfl, hj 879 _ rfl, hj 879 _ rfl, msc_fr (fun j => hj 2 j rfl) (fun j => k.x 3 rfl j) (fun j => k.x 4 rfl j)]
theorem raF_FR {l : List rec} {S T : sS} (h : FR l S T) (e : (kdis l kA && !(mdf l 1 3)) = true) {k a b v d : Int} : raF T k a b v d = raF S k a b v d := by
  have m := mnV_FR h e (a := a) (b := b)
  simp only [Bool.and_eq_true, Bool.not_eq_true'] at e
  have s := h.smk e.1
  unfold raF isK pps
  rw [m, s.x 10 rfl, s.x 11 rfl, s.x 8 rfl, isKn_fr (fun j => s.x 6 rfl j), ppn_fr (fun j => s.x 6 rfl j) (fun j => s.x 7 rfl j), rvn_fr (fun j => s.x 9 rfl j)]
/-- in how many ways words part -/
def cpf (f : Int → Int → Int) (z : Int) : Nat → Int
  | 0 => 1
  | 1 => cpf f z 0 * f (z - 1) z
  | 2 => cpf f z 1 * f (z - 2) (z - 1) + cpf f z 0 * f (z - 2) z
  | m + 3 => cpf f z (m + 2) * f (z - (m + 3)) (z - (m + 2)) + cpf f z (m + 1) * f (z - (m + 3)) (z - (m + 1)) + cpf f z m * f (z - (m + 3)) (z - m)
def csum (f : Int → Int → Int) (z : Int) (m : Nat) : Nat → Int
  | 0 => 0
  | n + 1 => csum f z m n + (if n + 1 ≤ m then cpf f z (m - (n + 1)) * f (z - m) (z - m + (n + 1)) else 0)
theorem csum_end {f : Int → Int → Int} {z : Int} {m n : Nat} (hm : 1 ≤ m) (hn : n ≤ 3) (h : n = 3 ∨ m ≤ n) : csum f z m n = cpf f z m := by
  have e3 : csum f z m 3 = cpf f z m := by
    match m, hm with
    | 1, _ =>
      show 0 + (if 0 + 1 ≤ 1 then cpf f z (1 - (0 + 1)) * f (z - (1 : Nat)) (z - (1 : Nat) + ((0 : Nat) + 1)) else 0) + (if 1 + 1 ≤ 1 then _ else 0) + (if 2 + 1 ≤ 1 then _ else 0) = cpf f z 0 * f (z - 1) z
      rw [if_pos (by omega), if_neg (by omega), if_neg (by omega)]
      rw [show z - ((1 : Nat) : Int) + (((0 : Nat) : Int) + 1) = z by omega, show z - ((1 : Nat) : Int) = z - 1 by omega]
      show 0 + cpf f z 0 * f (z - 1) z + 0 + 0 = _
      omega
    | 2, _ =>
      show 0 + (if 0 + 1 ≤ 2 then cpf f z (2 - (0 + 1)) * f (z - (2 : Nat)) (z - (2 : Nat) + ((0 : Nat) + 1)) else 0) + (if 1 + 1 ≤ 2 then cpf f z (2 - (1 + 1)) * f (z - (2 : Nat)) (z - (2 : Nat) + ((1 : Nat) + 1)) else 0) + (if 2 + 1 ≤ 2 then _ else 0) = cpf f z 1 * f (z - 2) (z - 1) + cpf f z 0 * f (z - 2) z
      rw [if_pos (by omega), if_pos (by omega), if_neg (by omega)]
      rw [show z - ((2 : Nat) : Int) + (((0 : Nat) : Int) + 1) = z - 1 by omega, show z - ((2 : Nat) : Int) + (((1 : Nat) : Int) + 1) = z by omega, show z - ((2 : Nat) : Int) = z - 2 by omega]
      show 0 + cpf f z 1 * _ + cpf f z 0 * _ + 0 = _
      omega
    | m + 3, _ =>
      show 0 + (if 0 + 1 ≤ m + 3 then cpf f z (m + 3 - (0 + 1)) * f (z - (m + 3 : Nat)) (z - (m + 3 : Nat) + ((0 : Nat) + 1)) else 0) + (if 1 + 1 ≤ m + 3 then cpf f z (m + 3 - (1 + 1)) * f (z - (m + 3 : Nat)) (z - (m + 3 : Nat) + ((1 : Nat) + 1)) else 0) + (if 2 + 1 ≤ m + 3 then cpf f z (m + 3 - (2 + 1)) * f (z - (m + 3 : Nat)) (z - (m + 3 : Nat) + ((2 : Nat) + 1)) else 0) = cpf f z (m + 2) * f (z - (m + 3)) (z - (m + 2)) + cpf f z (m + 1) * f (z - (m + 3)) (z - (m + 1)) + cpf f z m * f (z - (m + 3)) (z - m)
      rw [if_pos (by omega), if_pos (by omega), if_pos (by omega)]
      rw [show m + 3 - (0 + 1) = m + 2 by omega, show m + 3 - (1 + 1) = m + 1 by omega, show m + 3 - (2 + 1) = m by omega]
      rw [show z - ((m + 3 : Nat) : Int) + (((0 : Nat) : Int) + 1) = z - ((m : Int) + 2) by omega, show z - ((m + 3 : Nat) : Int) + (((1 : Nat) : Int) + 1) = z - ((m : Int) + 1) by omega, show z - ((m + 3 : Nat) : Int) + (((2 : Nat) : Int) + 1) = z - (m : Int) by omega, show z - ((m + 3 : Nat) : Int) = z - ((m : Int) + 3) by omega]
      omega
  rcases h with rfl | h
  · exact e3
  · have a : ∀ k, n + k ≤ 3 → csum f z m (n + k) = csum f z m n := by
      intro k
      induction k with
      | zero => intro _; rfl
      | succ k ih =>
        intro hk
        show csum f z m (n + k) + (if n + k + 1 ≤ m then _ else 0) = _
        rw [if_neg (by omega), ih (by omega)]; omega
    have b := a (3 - n) (by omega)
    rw [show n + (3 - n) = 3 by omega] at b
    rw [← b]; exact e3
theorem mulb {a b A B : Int} (ha : 0 ≤ a ∧ a ≤ A) (hb : 0 ≤ b ∧ b ≤ B) : 0 ≤ a * b ∧ a * b ≤ A * B := ⟨Int.mul_nonneg ha.1 hb.1, Int.mul_le_mul ha.2 hb.2 hb.1 (by omega)⟩
theorem cpf_b {f : Int → Int → Int} {z : Int} (h : ∀ a b, 0 ≤ f a b ∧ f a b ≤ 12) : (0 ≤ cpf f z 0 ∧ cpf f z 0 ≤ 1) ∧ (0 ≤ cpf f z 1 ∧ cpf f z 1 ≤ 12) ∧ (0 ≤ cpf f z 2 ∧ cpf f z 2 ≤ 156) ∧ (0 ≤ cpf f z 3 ∧ cpf f z 3 ≤ 2028) ∧ (0 ≤ cpf f z 4 ∧ cpf f z 4 ≤ 26352) ∧ (0 ≤ cpf f z 5 ∧ cpf f z 5 ≤ 342432) ∧ (0 ≤ cpf f z 6 ∧ cpf f z 6 ≤ 4449744) := by
  have c0 : 0 ≤ cpf f z 0 ∧ cpf f z 0 ≤ 1 := by unfold cpf; omega
  have c1 : 0 ≤ cpf f z 1 ∧ cpf f z 1 ≤ 12 := by have t := mulb c0 (h (z - 1) z); unfold cpf; omega
  have c2 : 0 ≤ cpf f z 2 ∧ cpf f z 2 ≤ 156 := by have t := mulb c1 (h (z - 2) (z - 1)); have u := mulb c0 (h (z - 2) z); unfold cpf; omega
  have step : ∀ (m : Nat) (A B C : Int), (0 ≤ cpf f z (m + 2) ∧ cpf f z (m + 2) ≤ A) → (0 ≤ cpf f z (m + 1) ∧ cpf f z (m + 1) ≤ B) → (0 ≤ cpf f z m ∧ cpf f z m ≤ C) → 0 ≤ cpf f z (m + 3) ∧ cpf f z (m + 3) ≤ A * 12 + B * 12 + C * 12 := by
    intro m A B C ha hb hc
    have t := mulb ha (h (z - (m + 3)) (z - (m + 2)))
    have u := mulb hb (h (z - (m + 3)) (z - (m + 1)))
    have v := mulb hc (h (z - (m + 3)) (z - m))
    show 0 ≤ cpf f z (m + 2) * f (z - (m + 3)) (z - (m + 2)) + cpf f z (m + 1) * f (z - (m + 3)) (z - (m + 1)) + cpf f z m * f (z - (m + 3)) (z - m) ∧ cpf f z (m + 2) * f (z - (m + 3)) (z - (m + 2)) + cpf f z (m + 1) * f (z - (m + 3)) (z - (m + 1)) + cpf f z m * f (z - (m + 3)) (z - m) ≤ _
    omega
  have c3 : 0 ≤ cpf f z 3 ∧ cpf f z 3 ≤ 2028 := by have t := step 0 _ _ _ c2 c1 c0; simp only [Nat.reduceAdd] at t; omega
  have c4 : 0 ≤ cpf f z 4 ∧ cpf f z 4 ≤ 26352 := by have t := step 1 _ _ _ c3 c2 c1; simp only [Nat.reduceAdd] at t; omega
  have c5 : 0 ≤ cpf f z 5 ∧ cpf f z 5 ≤ 342432 := by have t := step 2 _ _ _ c4 c3 c2; simp only [Nat.reduceAdd] at t; omega
  have c6 : 0 ≤ cpf f z 6 ∧ cpf f z 6 ≤ 4449744 := by have t := step 3 _ _ _ c5 c4 c3; simp only [Nat.reduceAdd] at t; omega
  exact ⟨c0, c1, c2, c3, c4, c5, c6⟩
theorem cpf_bb {f : Int → Int → Int} {z : Int} {m : Nat} (h : ∀ a b, 0 ≤ f a b ∧ f a b ≤ 12) (hm : m ≤ 6) : 0 ≤ cpf f z m ∧ cpf f z m ≤ 4449744 := by
  have t := cpf_b (z := z) h
  have e : m = 0 ∨ m = 1 ∨ m = 2 ∨ m = 3 ∨ m = 4 ∨ m = 5 ∨ m = 6 := by omega
  rcases e with rfl | rfl | rfl | rfl | rfl | rfl | rfl <;> omega
theorem csum_bb {f : Int → Int → Int} {z : Int} {m : Nat} (h : ∀ a b, 0 ≤ f a b ∧ f a b ≤ 12) (hm : m ≤ 6) : ∀ n, 0 ≤ csum f z m n ∧ csum f z m n ≤ 53396928 * n := by
  intro n
  induction n with
  | zero => exact ⟨Int.le_refl 0, by show (0 : Int) ≤ 53396928 * ((0 : Nat) : Int); omega⟩
  | succ n ih =>
    unfold csum
    split
    · have t := mulb (cpf_bb (z := z) (m := m - (n + 1)) h (by omega)) (h (z - m) (z - m + (n + 1)))
      omega
    · omega
/-- the adjectives kept are such -/
def MAD (S : sS) : Prop := ∀ i : Nat, (i : Int) < Xi S 895 14 → Xi S 897 i = -1 → Xi S 896 i < Xi S 5 3
theorem MAD_FR {l : List rec} {S T : sS} (h : FR l S T) (e : (kdis l [(896, 898), (5, 6)] && !(mdf l 895 14)) = true) (hm : MAD S) : MAD T := by
  simp only [Bool.and_eq_true, Bool.not_eq_true'] at e
  have k := h.smk e.1
  intro i hi hp
  rw [h.x 895 14 e.2] at hi
  rw [k.x 897 rfl] at hp
  rw [k.x 896 rfl, k.x 5 rfl]
  exact hm i hi hp
def fA (S : sS) (k a dfd : Int) : Int → Int → Int := fun x y => raF S k (a + x) (a + y) 1 dfd
def cpF (S : sS) (k a b dfd : Int) : Int := if b - a < 0 ∨ 6 < b - a then 0 else cpf (fA S k a dfd) (b - a) (b - a).toNat
theorem fA_b {S : sS} {k a d : Int} : ∀ x y, 0 ≤ fA S k a d x y ∧ fA S k a d x y ≤ 12 := fun _ _ => raF_b
theorem fA_FR {l : List rec} {S T : sS} (h : FR l S T) (e : (kdis l kA && !(mdf l 1 3)) = true) {k a d : Int} : fA T k a d = fA S k a d := by
  funext x y
  exact raF_FR h e
theorem cpF_FR {l : List rec} {S T : sS} (h : FR l S T) (e : (kdis l kA && !(mdf l 1 3)) = true) {k a b d : Int} : cpF T k a b d = cpF S k a b d := by
  unfold cpF; rw [fA_FR h e]
/-- the row of parts, from a place on -/
def PRT (S : sS) (f : Int → Int → Int) (z p : Int) : Prop := ∀ q : Int, p < q → q ≤ z → Xi S 898 q.toNat = cpf f z (z - q).toNat
theorem PRT_0 {S U : sS} {f : Int → Int → Int} {z : Int} (e : U = uI S 898 z.toNat (Int32.ofInt 1)) : PRT U f z (z - 1) := fun q h1 h2 => by
  rw [show q = z by omega, e, Xi_same (by unfold rg; omega), show (z - z).toNat = 0 by omega]; rfl
theorem PRT_w {S U : sS} {f : Int → Int → Int} {z p x : Int} {v : Int32} (e : U = uI S 898 x.toNat v) (hx : x ≤ p) (h0 : 0 ≤ x) (h : PRT S f z p) : PRT U f z p := fun q h1 h2 => by
  rw [e, Xi_ne (by omega)]; exact h q h1 h2
theorem PRT_FR {l : List rec} {S T : sS} {f : Int → Int → Int} {z p : Int} (h : FR l S T) (e : kdis l [(898, 899)] = true) (hp : PRT S f z p) : PRT T f z p := fun q h1 h2 => by
  rw [(h.smk e).x 898 rfl]; exact hp q h1 h2
theorem PRT_s {S : sS} {f : Int → Int → Int} {z p : Int} (h : PRT S f z p) (hp : Xi S 898 p.toNat = cpf f z (z - p).toNat) : PRT S f z (p - 1) := fun q h1 h2 => by
  by_cases e : q = p
  · rw [e]; exact hp
  · exact h q (by omega) h2
theorem csum_y {f : Int → Int → Int} {z p n c r : Int} (h0 : 0 ≤ p) (h1 : p + n ≤ z) (hn : 1 ≤ n) (hc : c = cpf f z (z - (p + n)).toNat) (hr : r = f p (p + n)) : csum f z (z - p).toNat n.toNat = csum f z (z - p).toNat (n - 1).toNat + c * r := by
  rw [show n.toNat = (n - 1).toNat + 1 by omega]
  show csum f z (z - p).toNat (n - 1).toNat + (if (n - 1).toNat + 1 ≤ (z - p).toNat then cpf f z ((z - p).toNat - ((n - 1).toNat + 1)) * f (z - (z - p).toNat) (z - (z - p).toNat + ((n - 1).toNat + 1)) else 0) = _
  rw [if_pos (by omega), show (z - p).toNat - ((n - 1).toNat + 1) = (z - (p + n)).toNat by omega, show z - ((z - p).toNat : Int) = p by omega, show p + (((n - 1).toNat : Int) + 1) = p + n by omega, hc, hr]
theorem csum_n {f : Int → Int → Int} {z p n c : Int} (h0 : 0 ≤ p) (h1 : p + n ≤ z) (hn : 1 ≤ n) (hc : c = cpf f z (z - (p + n)).toNat) (hz : c = 0) : csum f z (z - p).toNat n.toNat = csum f z (z - p).toNat (n - 1).toNat := by
  rw [csum_y h0 h1 hn hc rfl, hz, Int.zero_mul]; omega
/-- if there is a way to part, there is a first part -/
theorem cpf_ex {f : Int → Int → Int} {z p : Int} (h : ∀ a b, 0 ≤ f a b) (h0 : 0 ≤ p) (hp : p < z) (hc : ∀ m : Nat, (m : Int) ≤ z → 0 ≤ cpf f z m) (hx : 0 < cpf f z (z - p).toNat) : ∃ n : Int, 1 ≤ n ∧ n ≤ 3 ∧ p + n ≤ z ∧ 0 < cpf f z (z - (p + n)).toNat ∧ 0 < f p (p + n) := by
  apply Classical.byContradiction
  intro hno
  have key : ∀ n : Int, 1 ≤ n → n ≤ 3 → p + n ≤ z → cpf f z (z - (p + n)).toNat * f p (p + n) = 0 := by
    intro n a b c
    have u := hc (z - (p + n)).toNat (by omega)
    have v := h p (p + n)
    by_cases e : cpf f z (z - (p + n)).toNat = 0
    · rw [e, Int.zero_mul]
    · have w : f p (p + n) = 0 := by
        apply Classical.byContradiction
        intro q
        exact hno ⟨n, a, b, c, by omega, by omega⟩
      rw [w, Int.mul_zero]
  have s : ∀ n : Nat, n ≤ 3 → csum f z (z - p).toNat n = 0 := by
    intro n
    induction n with
    | zero => intro _; rfl
    | succ n ih =>
      intro hn
      by_cases e : p + (n + 1) ≤ z
      · have t := csum_y (f := f) (z := z) (p := p) (n := (n : Int) + 1) h0 e (by omega) rfl rfl
        rw [show ((n : Int) + 1).toNat = n + 1 by omega, show ((n : Int) + 1 - 1).toNat = n by omega] at t
        rw [t, ih (by omega), key _ (by omega) (by omega) e]; rfl
      · show csum f z (z - p).toNat n + (if n + 1 ≤ (z - p).toNat then _ else 0) = 0
        rw [if_neg (by omega), ih (by omega)]; rfl
  rw [← csum_end (m := (z - p).toNat) (n := 3) (by omega) (by omega) (Or.inl rfl), s 3 (by omega)] at hx
  omega
theorem ra_0 {S : sS} {k a b v d m : Int} (hm : mnV S a b = m) (h3 : m / 256 ≠ 3) (h : m / 256 ≠ 4 ∨ v = 0) : raF S k a b v d = 0 := by unfold raF; rw [hm, if_neg h3, if_pos h]
theorem ra_1 {S : sS} {k a b v d m z : Int} (hm : mnV S a b = m) (h3 : m / 256 = 3) (hk : z = isK S k (Xi S 10 (m % 256).toNat)) (h : z ≠ 0 ∧ (d ≠ 0 ∨ Xi S 11 (m % 256).toNat ≠ -1)) : raF S k a b v d = 1 := by unfold raF; rw [hm, if_pos h3, ← hk, if_pos h]
theorem ra_2 {S : sS} {k a b v d m z : Int} (hm : mnV S a b = m) (h3 : m / 256 = 3) (hk : z = isK S k (Xi S 10 (m % 256).toNat)) (h : ¬ (z ≠ 0 ∧ (d ≠ 0 ∨ Xi S 11 (m % 256).toNat ≠ -1))) : raF S k a b v d = 0 := by unfold raF; rw [hm, if_pos h3, ← hk, if_neg h]
theorem ra_k {l : List rec} {S T : sS} {k x y z : Int} (h : FR l S T) (e : kdis l kA = true) (hz : z = isK T k (Xi T 10 x.toNat)) (hx : x = y) : z = isK S k (Xi S 10 y.toNat) := by
  have s := h.smk e
  rw [hz, hx, s.x 10 rfl]
  exact isKn_fr (fun j => s.x 6 rfl j) _ _
theorem ra_p {l : List rec} {S T : sS} {k z : Int} (h : FR l S T) (e : kdis l kA = true) (hz : z = pps T k) : z = pps S k := by
  have s := h.smk e
  rw [hz]
  exact ppn_fr (fun j => s.x 6 rfl j) (fun j => s.x 7 rfl j) _ _ _
theorem ra_v {S : sS} {k a b v d m p : Int} (hm : mnV S a b = m) (hp : p = pps S k) (h4 : m / 256 = 4) (hv : v ≠ 0) : raF S k a b v d = rvn S p (Xi S 8 (mnV S a b % 256).toNat) (12 - 0 : Int).toNat 0 0 := by
  unfold raF; rw [hm, if_neg (by omega), if_neg (by omega), hp]; rfl
theorem MAD_put {S U1 U2 U3 : sS} {a x y z : Int} (h : MAD S) (ha : Xi S 895 14 = a) (h0 : 0 ≤ a) (e1 : U1 = uI S 896 a.toNat (Int32.ofInt x)) (e2 : U2 = uI U1 897 a.toNat (Int32.ofInt y)) (e3 : U3 = uI U2 895 14 (Int32.ofInt z)) (hz : z = a + 1) (hx : rg x) (hy : rg y) (hzr : rg z) (hv : y = -1 → x < Xi S 5 3) : MAD U3 := by
  intro i hi hp
  rw [e3, Xi_same hzr] at hi
  rw [e3, Xi_ne (by omega), e2] at hp
  rw [e3, Xi_ne (by omega), Xi_ne (by omega), e2, Xi_ne (by omega), Xi_ne (by omega), e1, Xi_ne (show ¬ (5 = 896 ∧ (3 : Nat) = a.toNat) by omega)]
  by_cases e : i = a.toNat
  · rw [e, Xi_same hy] at hp
    rw [e, Xi_same hx]
    exact hv hp
  · rw [Xi_ne (by omega), e1, Xi_ne (by omega)] at hp
    rw [Xi_ne (by omega)]
    exact h i (by omega) hp
theorem cpF_of {S : sS} {k a b d z : Int} (h0 : 0 ≤ b - a) (h6 : b - a ≤ 6) (hz : z = cpf (fA S k a d) (b - a) (b - a).toNat) : z = cpF S k a b d := by unfold cpF; rw [if_neg (by omega)]; exact hz
theorem cpF_0 {S : sS} {k a b d : Int} (h : b - a < 0 ∨ 6 < b - a) : 0 = cpF S k a b d := by unfold cpF; rw [if_pos h]
theorem ra_f {l : List rec} {S P : sS} {k a d x n z : Int} (hz : z = raF P k (a + x) (a + x + n) 1 d) (h : FR l S P) (e : (kdis l kA && !(mdf l 1 3)) = true) : z = fA S k a d x (x + n) := by
  rw [raF_FR h e, Int.add_assoc] at hz
  exact hz
theorem ra_f2 {l : List rec} {S P : sS} {k k1 a d x n z : Int} (hz : z = raF P k1 (a + x) (a + x + n) 1 d) (h : FR l S P) (e : (kdis l kA && !(mdf l 1 3)) = true) (hk : k1 = k) : z = fA S k a d x (x + n) := by
  rw [hk] at hz
  exact ra_f hz h e
theorem cp_t {l : List rec} {S P : sS} {k a b d z : Int} (hz : z = cpF P k a b d) (h : FR l S P) (e : (kdis l kA && !(mdf l 1 3)) = true) : z = cpF S k a b d := hz.trans (cpF_FR h e)
theorem MAD_0 {S : sS} (h : Xi S 895 14 = 0) : MAD S := fun i hi => by omega
theorem kr_n {f : Int → Int → Int} {z p v : Int} (h : ∀ i : Int, 1 ≤ i → i < v → cpf f z (z - (p + i)).toNat = 0 ∨ f p (p + i) = 0) (hv : cpf f z (z - (p + v)).toNat = 0 ∨ f p (p + v) = 0) : ∀ i : Int, 1 ≤ i → i < v + 1 → cpf f z (z - (p + i)).toNat = 0 ∨ f p (p + i) = 0 := fun i a b => by
  by_cases e : i = v
  · rw [e]; exact hv
  · exact h i a (by omega)
theorem kr_x {f : Int → Int → Int} {z p v : Int} (hf : ∀ a b, 0 ≤ f a b ∧ f a b ≤ 12) (hz : z ≤ 6) (h0 : 0 ≤ p) (hp : p < z) (hc : 0 < cpf f z (z - p).toNat) (hn : ∀ i : Int, 1 ≤ i → i < v → cpf f z (z - (p + i)).toNat = 0 ∨ f p (p + i) = 0) (hv : 3 ≤ v ∨ z ≤ p + v) (h3 : v ≤ 3) (hvz : p + v ≤ z) (h1 : 1 ≤ v) : 0 < cpf f z (z - (p + v)).toNat ∧ 0 < f p (p + v) := by
  obtain ⟨n, a, b, c, d, e⟩ := cpf_ex (fun x y => (hf x y).1) h0 hp (fun m hm => (cpf_bb hf (by omega)).1) hc
  have hnv : n = v := by
    apply Classical.byContradiction
    intro q
    have t := hn n a (by omega)
    omega
  rw [← hnv]
  exact ⟨d, e⟩
theorem cr_t {S T U : sS} {v a d : Int} (h : v ≠ 0 → 0 < cpF S (Xi T 895 12) a (Xi T 895 13) d) (e1 : Xi U 895 12 = Xi T 895 12) (e2 : Xi U 895 13 = Xi T 895 13) : v ≠ 0 → 0 < cpF S (Xi U 895 12) a (Xi U 895 13) d := by rw [e1, e2]; exact h

