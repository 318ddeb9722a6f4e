/-! SAFETY: what words mean as adjectives and descriptions, as functions of the cells -/
def rvn (S : sS) (has t : Int) : Nat → Int → Int → Int
  | 0, _, c => c
  | n + 1, p, c => rvn S has t n (p + 1) (if iandF (ishrF has p) 1 = 1 ∧ Xi S 9 p.toNat = t then c + 1 else c)
def raF (S : sS) (k a b vals dfd : Int) : Int :=
  if mnV S a b / 256 = 3 then (if isK S k (Xi S 10 (mnV S a b % 256).toNat) ≠ 0 ∧ (dfd ≠ 0 ∨ Xi S 11 (mnV S a b % 256).toNat ≠ -1) then 1 else 0)
  else if mnV S a b / 256 ≠ 4 ∨ vals = 0 then 0 else rvn S (pps S k) (Xi S 8 (mnV S a b % 256).toNat) 12 0 0
theorem rvn_y {S : sS} {has t p c : Int} (hp : p < 12) (h : iandF (ishrF has p) 1 = 1 ∧ Xi S 9 p.toNat = t) : rvn S has t (12 - p).toNat p c = rvn S has t (12 - (p + 1)).toNat (p + 1) (c + 1) := by
  rw [tn_s hp]; show rvn S has t _ (p + 1) (if _ then _ else _) = _; rw [if_pos h]
theorem rvn_n {S : sS} {has t p c : Int} (hp : p < 12) (h : ¬ (iandF (ishrF has p) 1 = 1 ∧ Xi S 9 p.toNat = t)) : rvn S has t (12 - p).toNat p c = rvn S has t (12 - (p + 1)).toNat (p + 1) c := by
  rw [tn_s hp]; show rvn S has t _ (p + 1) (if _ then _ else _) = _; rw [if_neg h]
theorem rvn_e {S : sS} {has t p c : Int} (hp : 12 ≤ p) : rvn S has t (12 - p).toNat p c = c := by rw [tn_z hp]; rfl
theorem rvn_b {S : sS} {has t : Int} : ∀ (n : Nat) (p c : Int), c ≤ rvn S has t n p c ∧ rvn S has t n p c ≤ c + n := by
  intro n
  induction n with
  | zero => intro p c; exact ⟨Int.le_refl _, by show c ≤ c + ((0 : Nat) : Int); omega⟩
  | succ n ih =>
    intro p c
    unfold rvn
    have h := ih (p + 1) (if iandF (ishrF has p) 1 = 1 ∧ Xi S 9 p.toNat = t then c + 1 else c)
    split at h <;> (split <;> first | omega | contradiction)
theorem raF_b {S : sS} {k a b v d : Int} : 0 ≤ raF S k a b v d ∧ raF S k a b v d ≤ 12 := by
  unfold raF
  split
  · split <;> omega
  · split
    · omega
    · have h := rvn_b (S := S) (has := pps S k) (t := Xi S 8 (mnV S a b % 256).toNat) 12 0 0
      omega
theorem isKn_fr {S T : sS} (h : ∀ j, Xi T 6 j = Xi S 6 j) {o : Int} : ∀ (n : Nat) (k : Int), isKn T o n k = isKn S o n k := by
  intro n
  induction n with
  | zero => intro k; rfl
  | succ n ih => intro k; unfold isKn; rw [h, ih]
theorem ppn_fr {S T : sS} (h : ∀ j, Xi T 6 j = Xi S 6 j) (h7 : ∀ j, Xi T 7 j = Xi S 7 j) : ∀ (n : Nat) (k a : Int), ppn T n k a = ppn S n k a := by
  intro n
  induction n with
  | zero => intro k a; rfl
  | succ n ih => intro k a; unfold ppn; rw [h, h7, ih]
theorem rvn_fr {S T : sS} (h : ∀ j, Xi T 9 j = Xi S 9 j) {has t : Int} : ∀ (n : Nat) (p c : Int), rvn T has t n p c = rvn S has t n p c := by
  intro n
  induction n with
  | zero => intro p c; rfl
  | succ n ih => intro p c; unfold rvn; rw [h, ih]
theorem msc_fr {S T : sS} (h2 : ∀ j, Xj T 2 j = Xj S 2 j) (h3 : ∀ j, Xi T 3 j = Xi S 3 j) (h4 : ∀ j, Xi T 4 j = Xi S 4 j) {a b c : Int} : ∀ (m i : Nat), msc T a b c m i = msc S a b c m i := by
  intro m
  induction m with
  | zero => intro i; rfl
  | succ m ih => intro i; unfold msc; rw [h2, h2, h2, h3, h4, ih]
def kA : List (Nat × Nat) := [(2, 5), (6, 12), (879, 880)]
theorem mnV_FR {l : List rec} {S T : sS} (h : FR l S T) (e : (kdis l kA && !(mdf l 1 3)) = true) {a b : Int} : mnV T a b = mnV S a b := by
  simp only [Bool.and_eq_true, Bool.not_eq_true'] at e
  have k := h.smk e.1
  have hj : ∀ c j, inK kA c = true → Xj T c j = Xj S c j := fun c j hc => by unfold Xj; rw [(k c j hc).2.1]
  unfold mnV mnR mnF
  rw [h.x 1 3 e.2, hj 879 _ rfl, hj 879 _ rfl, hj 879 _ rfl, msc_fr (fun j => hj 2 j rfl) (fun j => k.x 3 rfl j) (fun j => k.x 4 rfl j)]
theorem raF_FR {l : List rec} {S T : sS} (h : FR l S T) (e : (kdis l kA && !(mdf l 1 3)) = true) {k a b v d : Int} : raF T k a b v d = raF S k a b v d := by
  have m := mnV_FR h e (a := a) (b := b)
  simp only [Bool.and_eq_true, Bool.not_eq_true'] at e
  have s := h.smk e.1
  unfold raF isK pps
  rw [m, s.x 10 rfl, s.x 11 rfl, s.x 8 rfl, isKn_fr (fun j => s.x 6 rfl j), ppn_fr (fun j => s.x 6 rfl j) (fun j => s.x 7 rfl j), rvn_fr (fun j => s.x 9 rfl j)]
/-- in how many ways words part -/
def cpf (f : Int → Int → Int) (z : Int) : Nat → Int
  | 0 => 1
  | 1 => cpf f z 0 * f (z - 1) z
  | 2 => cpf f z 1 * f (z - 2) (z - 1) + cpf f z 0 * f (z - 2) z
  | m + 3 => cpf f z (m + 2) * f (z - (m + 3)) (z - (m + 2)) + cpf f z (m + 1) * f (z - (m + 3)) (z - (m + 1)) + cpf f z m * f (z - (m + 3)) (z - m)
def csum (f : Int → Int → Int) (z : Int) (m : Nat) : Nat → Int
  | 0 => 0
  | n + 1 => csum f z m n + (if n + 1 ≤ m then cpf f z (m - (n + 1)) * f (z - m) (z - m + (n + 1)) else 0)
theorem csum_end {f : Int → Int → Int} {z : Int} {m n : Nat} (hm : 1 ≤ m) (hn : n ≤ 3) (h : n = 3 ∨ m ≤ n) : csum f z m n = cpf f z m := by
  have e3 : csum f z m 3 = cpf f z m := by
    match m, hm with
    | 1, _ =>
      show 0 + (if 0 + 1 ≤ 1 then cpf f z (1 - (0 + 1)) * f (z - (1 : Nat)) (z - (1 : Nat) + ((0 : Nat) + 1)) else 0) + (if 1 + 1 ≤ 1 then _ else 0) + (if 2 + 1 ≤ 1 then _ else 0) = cpf f z 0 * f (z - 1) z
      rw [if_pos (by omega), if_neg (by omega), if_neg (by omega)]
      rw [show z - ((1 : Nat) : Int) + (((0 : Nat) : Int) + 1) = z by omega, show z - ((1 : Nat) : Int) = z - 1 by omega]
      show 0 + cpf f z 0 * f (z - 1) z + 0 + 0 = _
      omega
    | 2, _ =>
      show 0 + (if 0 + 1 ≤ 2 then cpf f z (2 - (0 + 1)) * f (z - (2 : Nat)) (z - (2 : Nat) + ((0 : Nat) + 1)) else 0) + (if 1 + 1 ≤ 2 then cpf f z (2 - (1 + 1)) * f (z - (2 : Nat)) (z - (2 : Nat) + ((1 : Nat) + 1)) else 0) + (if 2 + 1 ≤ 2 then _ else 0) = cpf f z 1 * f (z - 2) (z - 1) + cpf f z 0 * f (z - 2) z
      rw [if_pos (by omega), if_pos (by omega), if_neg (by omega)]
      rw [show z - ((2 : Nat) : Int) + (((0 : Nat) : Int) + 1) = z - 1 by omega, show z - ((2 : Nat) : Int) + (((1 : Nat) : Int) + 1) = z by omega, show z - ((2 : Nat) : Int) = z - 2 by omega]
      show 0 + cpf f z 1 * _ + cpf f z 0 * _ + 0 = _
      omega
    | m + 3, _ =>
      show 0 + (if 0 + 1 ≤ m + 3 then cpf f z (m + 3 - (0 + 1)) * f (z - (m + 3 : Nat)) (z - (m + 3 : Nat) + ((0 : Nat) + 1)) else 0) + (if 1 + 1 ≤ m + 3 then cpf f z (m + 3 - (1 + 1)) * f (z - (m + 3 : Nat)) (z - (m + 3 : Nat) + ((1 : Nat) + 1)) else 0) + (if 2 + 1 ≤ m + 3 then cpf f z (m + 3 - (2 + 1)) * f (z - (m + 3 : Nat)) (z - (m + 3 : Nat) + ((2 : Nat) + 1)) else 0) = cpf f z (m + 2) * f (z - (m + 3)) (z - (m + 2)) + cpf f z (m + 1) * f (z - (m + 3)) (z - (m + 1)) + cpf f z m * f (z - (m + 3)) (z - m)
      rw [if_pos (by omega), if_pos (by omega), if_pos (by omega)]
      rw [show m + 3 - (0 + 1) = m + 2 by omega, show m + 3 - (1 + 1) = m + 1 by omega, show m + 3 - (2 + 1) = m by omega]
      rw [show z - ((m + 3 : Nat) : Int) + (((0 : Nat) : Int) + 1) = z - ((m : Int) + 2) by omega, show z - ((m + 3 : Nat) : Int) + (((1 : Nat) : Int) + 1) = z - ((m : Int) + 1) by omega, show z - ((m + 3 : Nat) : Int) + (((2 : Nat) : Int) + 1) = z - (m : Int) by omega, show z - ((m + 3 : Nat) : Int) = z - ((m : Int) + 3) by omega]
      omega
  rcases h with rfl | h
  · exact e3
  · have a : ∀ k, n + k ≤ 3 → csum f z m (n + k) = csum f z m n := by
      intro k
      induction k with
      | zero => intro _; rfl
      | succ k ih =>
        intro hk
        show csum f z m (n + k) + (if n + k + 1 ≤ m then _ else 0) = _
        rw [if_neg (by omega), ih (by omega)]; omega
    have b := a (3 - n) (by omega)
    rw [show n + (3 - n) = 3 by omega] at b
    rw [← b]; exact e3
theorem mulb {a b A B : Int} (ha : 0 ≤ a ∧ a ≤ A) (hb : 0 ≤ b ∧ b ≤ B) : 0 ≤ a * b ∧ a * b ≤ A * B := ⟨Int.mul_nonneg ha.1 hb.1, Int.mul_le_mul ha.2 hb.2 hb.1 (by omega)⟩
theorem cpf_b {f : Int → Int → Int} {z : Int} (h : ∀ a b, 0 ≤ f a b ∧ f a b ≤ 12) : (0 ≤ cpf f z 0 ∧ cpf f z 0 ≤ 1) ∧ (0 ≤ cpf f z 1 ∧ cpf f z 1 ≤ 12) ∧ (0 ≤ cpf f z 2 ∧ cpf f z 2 ≤ 156) ∧ (0 ≤ cpf f z 3 ∧ cpf f z 3 ≤ 2028) ∧ (0 ≤ cpf f z 4 ∧ cpf f z 4 ≤ 26352) ∧ (0 ≤ cpf f z 5 ∧ cpf f z 5 ≤ 342432) ∧ (0 ≤ cpf f z 6 ∧ cpf f z 6 ≤ 4449744) := by
  have c0 : 0 ≤ cpf f z 0 ∧ cpf f z 0 ≤ 1 := by unfold cpf; omega
  have c1 : 0 ≤ cpf f z 1 ∧ cpf f z 1 ≤ 12 := by have t := mulb c0 (h (z - 1) z); unfold cpf; omega
  have c2 : 0 ≤ cpf f z 2 ∧ cpf f z 2 ≤ 156 := by have t := mulb c1 (h (z - 2) (z - 1)); have u := mulb c0 (h (z - 2) z); unfold cpf; omega
  have step : ∀ (m : Nat) (A B C : Int), (0 ≤ cpf f z (m + 2) ∧ cpf f z (m + 2) ≤ A) → (0 ≤ cpf f z (m + 1) ∧ cpf f z (m + 1) ≤ B) → (0 ≤ cpf f z m ∧ cpf f z m ≤ C) → 0 ≤ cpf f z (m + 3) ∧ cpf f z (m + 3) ≤ A * 12 + B * 12 + C * 12 := by
    intro m A B C ha hb hc
    have t := mulb ha (h (z - (m + 3)) (z - (m + 2)))
    have u := mulb hb (h (z - (m + 3)) (z - (m + 1)))
    have v := mulb hc (h (z - (m + 3)) (z - m))
    show 0 ≤ cpf f z (m + 2) * f (z - (m + 3)) (z - (m + 2)) + cpf f z (m + 1) * f (z - (m + 3)) (z - (m + 1)) + cpf f z m * f (z - (m + 3)) (z - m) ∧ cpf f z (m + 2) * f (z - (m + 3)) (z - (m + 2)) + cpf f z (m + 1) * f (z - (m + 3)) (z - (m + 1)) + cpf f z m * f (z - (m + 3)) (z - m) ≤ _
    omega
  have c3 : 0 ≤ cpf f z 3 ∧ cpf f z 3 ≤ 2028 := by have t := step 0 _ _ _ c2 c1 c0; simp only [Nat.reduceAdd] at t; omega
  have c4 : 0 ≤ cpf f z 4 ∧ cpf f z 4 ≤ 26352 := by have t := step 1 _ _ _ c3 c2 c1; simp only [Nat.reduceAdd] at t; omega
  have c5 : 0 ≤ cpf f z 5 ∧ cpf f z 5 ≤ 342432 := by have t := step 2 _ _ _ c4 c3 c2; simp only [Nat.reduceAdd] at t; omega
  have c6 : 0 ≤ cpf f z 6 ∧ cpf f z 6 ≤ 4449744 := by have t := step 3 _ _ _ c5 c4 c3; simp only [Nat.reduceAdd] at t; omega
  exact ⟨c0, c1, c2, c3, c4, c5, c6⟩
theorem cpf_bb {f : Int → Int → Int} {z : Int} {m : Nat} (h : ∀ a b, 0 ≤ f a b ∧ f a b ≤ 12) (hm : m ≤ 6) : 0 ≤ cpf f z m ∧ cpf f z m ≤ 4449744 := by
  have t := cpf_b (z := z) h
  have e : m = 0 ∨ m = 1 ∨ m = 2 ∨ m = 3 ∨ m = 4 ∨ m = 5 ∨ m = 6 := by omega
  rcases e with rfl | rfl | rfl | rfl | rfl | rfl | rfl <;> omega
theorem csum_bb {f : Int → Int → Int} {z : Int} {m : Nat} (h : ∀ a b, 0 ≤ f a b ∧ f a b ≤ 12) (hm : m ≤ 6) : ∀ n, 0 ≤ csum f z m n ∧ csum f z m n ≤ 53396928 * n := by
  intro n
  induction n with
  | zero => exact ⟨Int.le_refl 0, by show (0 : Int) ≤ 53396928 * ((0 : Nat) : Int); omega⟩
  | succ n ih =>
    unfold csum
    split
    · have t := mulb (cpf_bb (z := z) (m := m - (n + 1)) h (by omega)) (h (z - m) (z - m + (n + 1)))
      omega
    · omega
/-- the adjectives kept are such -/
def MAD (S : sS) : Prop := ∀ i : Nat, (i : Int) < Xi S 895 14 → Xi S 897 i = -1 → Xi S 896 i < Xi S 5 3
theorem MAD_FR {l : List rec} {S T : sS} (h : FR l S T) (e : (kdis l [(896, 898), (5, 6)] && !(mdf l 895 14)) = true) (hm : MAD S) : MAD T := by
  simp only [Bool.and_eq_true, Bool.not_eq_true'] at e
  have k := h.smk e.1
  intro i hi hp
  rw [h.x 895 14 e.2] at hi
  rw [k.x 897 rfl] at hp
  rw [k.x 896 rfl, k.x 5 rfl]
  exact hm i hi hp
def fA (S : sS) (k a dfd : Int) : Int → Int → Int := fun x y => raF S k (a + x) (a + y) 1 dfd
def cpF (S : sS) (k a b dfd : Int) : Int := if b - a < 0 ∨ 6 < b - a then 0 else cpf (fA S k a dfd) (b - a) (b - a).toNat
theorem fA_b {S : sS} {k a d : Int} : ∀ x y, 0 ≤ fA S k a d x y ∧ fA S k a d x y ≤ 12 := fun _ _ => raF_b
theorem fA_FR {l : List rec} {S T : sS} (h : FR l S T) (e : (kdis l kA && !(mdf l 1 3)) = true) {k a d : Int} : fA T k a d = fA S k a d := by
  funext x y
  exact raF_FR h e
theorem cpF_FR {l : List rec} {S T : sS} (h : FR l S T) (e : (kdis l kA && !(mdf l 1 3)) = true) {k a b d : Int} : cpF T k a b d = cpF S k a b d := by
  unfold cpF; rw [fA_FR h e]
/-- the row of parts, from a place on -/
def PRT (S : sS) (f : Int → Int → Int) (z p : Int) : Prop := ∀ q : Int, p < q → q ≤ z → Xi S 898 q.toNat = cpf f z (z - q).toNat
theorem PRT_0 {S U : sS} {f : Int → Int → Int} {z : Int} (e : U = uI S 898 z.toNat (Int32.ofInt 1)) : PRT U f z (z - 1) := fun q h1 h2 => by
  rw [show q = z by omega, e, Xi_same (by unfold rg; omega), show (z - z).toNat = 0 by omega]; rfl
theorem PRT_w {S U : sS} {f : Int → Int → Int} {z p x : Int} {v : Int32} (e : U = uI S 898 x.toNat v) (hx : x ≤ p) (h0 : 0 ≤ x) (h : PRT S f z p) : PRT U f z p := fun q h1 h2 => by
  rw [e, Xi_ne (by omega)]; exact h q h1 h2
theorem PRT_FR {l : List rec} {S T : sS} {f : Int → Int → Int} {z p : Int} (h : FR l S T) (e : kdis l [(898, 899)] = true) (hp : PRT S f z p) : PRT T f z p := fun q h1 h2 => by
  rw [(h.smk e).x 898 rfl]; exact hp q h1 h2
theorem PRT_s {S : sS} {f : Int → Int → Int} {z p : Int} (h : PRT S f z p) (hp : Xi S 898 p.toNat = cpf f z (z - p).toNat) : PRT S f z (p - 1) := fun q h1 h2 => by
  by_cases e : q = p
  · rw [e]; exact hp
  · exact h q (by omega) h2
theorem csum_y {f : Int → Int → Int} {z p n c r : Int} (h0 : 0 ≤ p) (h1 : p + n ≤ z) (hn : 1 ≤ n) (hc : c = cpf f z (z - (p + n)).toNat) (hr : r = f p (p + n)) : csum f z (z - p).toNat n.toNat = csum f z (z - p).toNat (n - 1).toNat + c * r := by
  rw [show n.toNat = (n - 1).toNat + 1 by omega]
  show csum f z (z - p).toNat (n - 1).toNat + (if (n - 1).toNat + 1 ≤ (z - p).toNat then cpf f z ((z - p).toNat - ((n - 1).toNat + 1)) * f (z - (z - p).toNat) (z - (z - p).toNat + ((n - 1).toNat + 1)) else 0) = _
  rw [if_pos (by omega), show (z - p).toNat - ((n - 1).toNat + 1) = (z - (p + n)).toNat by omega, show z - ((z - p).toNat : Int) = p by omega, show p + (((n - 1).toNat : Int) + 1) = p + n by omega, hc, hr]
theorem csum_n {f : Int → Int → Int} {z p n c : Int} (h0 : 0 ≤ p) (h1 : p + n ≤ z) (hn : 1 ≤ n) (hc : c = cpf f z (z - (p + n)).toNat) (hz : c = 0) : csum f z (z - p).toNat n.toNat = csum f z (z - p).toNat (n - 1).toNat := by
  rw [csum_y h0 h1 hn hc rfl, hz, Int.zero_mul]; omega
/-- if there is a way to part, there is a first part -/
theorem cpf_ex {f : Int → Int → Int} {z p : Int} (h : ∀ a b, 0 ≤ f a b) (h0 : 0 ≤ p) (hp : p < z) (hc : ∀ m : Nat, (m : Int) ≤ z → 0 ≤ cpf f z m) (hx : 0 < cpf f z (z - p).toNat) : ∃ n : Int, 1 ≤ n ∧ n ≤ 3 ∧ p + n ≤ z ∧ 0 < cpf f z (z - (p + n)).toNat ∧ 0 < f p (p + n) := by
  apply Classical.byContradiction
  intro hno
  have key : ∀ n : Int, 1 ≤ n → n ≤ 3 → p + n ≤ z → cpf f z (z - (p + n)).toNat * f p (p + n) = 0 := by
    intro n a b c
    have u := hc (z - (p + n)).toNat (by omega)
    have v := h p (p + n)
    by_cases e : cpf f z (z - (p + n)).toNat = 0
    · rw [e, Int.zero_mul]
    · have w : f p (p + n) = 0 := by
        apply Classical.byContradiction
        intro q
        exact hno ⟨n, a, b, c, by omega, by omega⟩
      rw [w, Int.mul_zero]
  have s : ∀ n : Nat, n ≤ 3 → csum f z (z - p).toNat n = 0 := by
    intro n
    induction n with
    | zero => intro _; rfl
    | succ n ih =>
      intro hn
      by_cases e : p + (n + 1) ≤ z
      · have t := csum_y (f := f) (z := z) (p := p) (n := (n : Int) + 1) h0 e (by omega) rfl rfl
        rw [show ((n : Int) + 1).toNat = n + 1 by omega, show ((n : Int) + 1 - 1).toNat = n by omega] at t
        rw [t, ih (by omega), key _ (by omega) (by omega) e]; rfl
      · show csum f z (z - p).toNat n + (if n + 1 ≤ (z - p).toNat then _ else 0) = 0
        rw [if_neg (by omega), ih (by omega)]; rfl
  rw [← csum_end (m := (z - p).toNat) (n := 3) (by omega) (by omega) (Or.inl rfl), s 3 (by omega)] at hx
  omega
theorem ra_0 {S : sS} {k a b v d m : Int} (hm : mnV S a b = m) (h3 : m / 256 ≠ 3) (h : m / 256 ≠ 4 ∨ v = 0) : raF S k a b v d = 0 := by unfold raF; rw [hm, if_neg h3, if_pos h]
theorem ra_1 {S : sS} {k a b v d m z : Int} (hm : mnV S a b = m) (h3 : m / 256 = 3) (hk : z = isK S k (Xi S 10 (m % 256).toNat)) (h : z ≠ 0 ∧ (d ≠ 0 ∨ Xi S 11 (m % 256).toNat ≠ -1)) : raF S k a b v d = 1 := by unfold raF; rw [hm, if_pos h3, ← hk, if_pos h]
theorem ra_2 {S : sS} {k a b v d m z : Int} (hm : mnV S a b = m) (h3 : m / 256 = 3) (hk : z = isK S k (Xi S 10 (m % 256).toNat)) (h : ¬ (z ≠ 0 ∧ (d ≠ 0 ∨ Xi S 11 (m % 256).toNat ≠ -1))) : raF S k a b v d = 0 := by unfold raF; rw [hm, if_pos h3, ← hk, if_neg h]
theorem ra_k {l : List rec} {S T : sS} {k x y z : Int} (h : FR l S T) (e : kdis l kA = true) (hz : z = isK T k (Xi T 10 x.toNat)) (hx : x = y) : z = isK S k (Xi S 10 y.toNat) := by
  have s := h.smk e
  rw [hz, hx, s.x 10 rfl]
  exact isKn_fr (fun j => s.x 6 rfl j) _ _
theorem ra_p {l : List rec} {S T : sS} {k z : Int} (h : FR l S T) (e : kdis l kA = true) (hz : z = pps T k) : z = pps S k := by
  have s := h.smk e
  rw [hz]
  exact ppn_fr (fun j => s.x 6 rfl j) (fun j => s.x 7 rfl j) _ _ _
theorem ra_v {S : sS} {k a b v d m p : Int} (hm : mnV S a b = m) (hp : p = pps S k) (h4 : m / 256 = 4) (hv : v ≠ 0) : raF S k a b v d = rvn S p (Xi S 8 (mnV S a b % 256).toNat) (12 - 0 : Int).toNat 0 0 := by
  unfold raF; rw [hm, if_neg (by omega), if_neg (by omega), hp]; rfl
theorem MAD_put {S U1 U2 U3 : sS} {a x y z : Int} (h : MAD S) (ha : Xi S 895 14 = a) (h0 : 0 ≤ a) (e1 : U1 = uI S 896 a.toNat (Int32.ofInt x)) (e2 : U2 = uI U1 897 a.toNat (Int32.ofInt y)) (e3 : U3 = uI U2 895 14 (Int32.ofInt z)) (hz : z = a + 1) (hx : rg x) (hy : rg y) (hzr : rg z) (hv : y = -1 → x < Xi S 5 3) : MAD U3 := by
  intro i hi hp
  rw [e3, Xi_same hzr] at hi
  rw [e3, Xi_ne (by omega), e2] at hp
  rw [e3, Xi_ne (by omega), Xi_ne (by omega), e2, Xi_ne (by omega), Xi_ne (by omega), e1, Xi_ne (show ¬ (5 = 896 ∧ (3 : Nat) = a.toNat) by omega)]
  by_cases e : i = a.toNat
  · rw [e, Xi_same hy] at hp
    rw [e, Xi_same hx]
    exact hv hp
  · rw [Xi_ne (by omega), e1, Xi_ne (by omega)] at hp
    rw [Xi_ne (by omega)]
    exact h i (by omega) hp
theorem cpF_of {S : sS} {k a b d z : Int} (h0 : 0 ≤ b - a) (h6 : b - a ≤ 6) (hz : z = cpf (fA S k a d) (b - a) (b - a).toNat) : z = cpF S k a b d := by unfold cpF; rw [if_neg (by omega)]; exact hz
theorem cpF_0 {S : sS} {k a b d : Int} (h : b - a < 0 ∨ 6 < b - a) : 0 = cpF S k a b d := by unfold cpF; rw [if_pos h]
theorem ra_f {l : List rec} {S P : sS} {k a d x n z : Int} (hz : z = raF P k (a + x) (a + x + n) 1 d) (h : FR l S P) (e : (kdis l kA && !(mdf l 1 3)) = true) : z = fA S k a d x (x + n) := by
  rw [raF_FR h e, Int.add_assoc] at hz
  exact hz
theorem ra_f2 {l : List rec} {S P : sS} {k k1 a d x n z : Int} (hz : z = raF P k1 (a + x) (a + x + n) 1 d) (h : FR l S P) (e : (kdis l kA && !(mdf l 1 3)) = true) (hk : k1 = k) : z = fA S k a d x (x + n) := by
  rw [hk] at hz
  exact ra_f hz h e
theorem cp_t {l : List rec} {S P : sS} {k a b d z : Int} (hz : z = cpF P k a b d) (h : FR l S P) (e : (kdis l kA && !(mdf l 1 3)) = true) : z = cpF S k a b d := hz.trans (cpF_FR h e)
theorem MAD_0 {S : sS} (h : Xi S 895 14 = 0) : MAD S := fun i hi => by omega
theorem kr_n {f : Int → Int → Int} {z p v : Int} (h : ∀ i : Int, 1 ≤ i → i < v → cpf f z (z - (p + i)).toNat = 0 ∨ f p (p + i) = 0) (hv : cpf f z (z - (p + v)).toNat = 0 ∨ f p (p + v) = 0) : ∀ i : Int, 1 ≤ i → i < v + 1 → cpf f z (z - (p + i)).toNat = 0 ∨ f p (p + i) = 0 := fun i a b => by
  by_cases e : i = v
  · rw [e]; exact hv
  · exact h i a (by omega)
theorem kr_x {f : Int → Int → Int} {z p v : Int} (hf : ∀ a b, 0 ≤ f a b ∧ f a b ≤ 12) (hz : z ≤ 6) (h0 : 0 ≤ p) (hp : p < z) (hc : 0 < cpf f z (z - p).toNat) (hn : ∀ i : Int, 1 ≤ i → i < v → cpf f z (z - (p + i)).toNat = 0 ∨ f p (p + i) = 0) (hv : 3 ≤ v ∨ z ≤ p + v) (h3 : v ≤ 3) (hvz : p + v ≤ z) (h1 : 1 ≤ v) : 0 < cpf f z (z - (p + v)).toNat ∧ 0 < f p (p + v) := by
  obtain ⟨n, a, b, c, d, e⟩ := cpf_ex (fun x y => (hf x y).1) h0 hp (fun m hm => (cpf_bb hf (by omega)).1) hc
  have hnv : n = v := by
    apply Classical.byContradiction
    intro q
    have t := hn n a (by omega)
    omega
  rw [← hnv]
  exact ⟨d, e⟩
theorem cr_t {S T U : sS} {v a d : Int} (h : v ≠ 0 → 0 < cpF S (Xi T 895 12) a (Xi T 895 13) d) (e1 : Xi U 895 12 = Xi T 895 12) (e2 : Xi U 895 13 = Xi T 895 13) : v ≠ 0 → 0 < cpF S (Xi U 895 12) a (Xi U 895 13) d := by rw [e1, e2]; exact h
/-! SAFETY of methods: printed by wip/safe (vc.py, decl.py) -/
def md_me_readAdjective : List rec := [(895, 896, 8, 9), (895, 896, 9, 10)]
abbrev Q_me_readAdjective (S : sS) (kind : Int) (from_ : Int) (to : Int) (vals : Int) (dfd : Int) : pst := fun r S1 => HI S1 ∧ FR md_me_readAdjective S S1 ∧ (∃ z : Int, r = some (iv z) ∧ (0 ≤ z ∧ z ≤ 12) ∧ (1 ≤ z → (Xi S1 895 9 = -1 → Xi S1 895 8 ≤ 23 ∧ Xi S1 895 8 < Xi S 5 3) ∧ Xi S1 895 8 ≤ 63) ∧ (z = raF S kind from_ to vals dfd))
set_option maxRecDepth 100000 in
theorem t_me_readAdjective {S : sS} (hH : HI S) (kind : Int) (from_ : Int) (to : Int) (vals : Int) (dfd : Int) (hkind : -1 ≤ kind ∧ kind ≤ 15) (hfrom_ : -1 ≤ from_ ∧ from_ ≤ 6000) (hto : -1 ≤ to ∧ to ≤ 6000) (hvals : 0 ≤ vals ∧ vals ≤ 1) (hdfd : 0 ≤ dfd ∧ dfd ≤ 1) (hL : LEX S) (d : Nat) : Mt lay0 (d + 2) m_me_readAdjective [.ref 895, iv kind, iv from_, iv to, iv vals, iv dfd] S (Q_me_readAdjective S kind from_ to vals dfd) := by
  refine Mt_R rfl rfl ?_
  have hF : FR md_me_readAdjective S S := FR.rf
  have w1 : 0 ≤ Xi S 5 3 ∧ Xi S 5 3 ≤ 24 := hH.c _ _
  have w2 : 0 ≤ Xi S 895 8 ∧ Xi S 895 8 ≤ 255 := hH.c _ _
  have w3 : -1 ≤ Xi S 895 9 ∧ Xi S 895 9 ≤ 11 := hH.c _ _
  have C124 : ∀ (n124 : Nat) (T1 : sS) (_ : HI T1) (_ : FR md_me_readAdjective S T1) (v7 : Int) (v8 : Int) (v9 : Int), (0 ≤ v7 ∧ v7 ≤ 12) → (-2147483648 ≤ v8 ∧ v8 ≤ 2147483647) → (0 ≤ v9 ∧ v9 ≤ 12) → (0 ≤ v7 ∧ v7 ≤ v9) → (Xi T1 895 8 ≤ 63) → (v7 = 0 ∨ 0 ≤ Xi T1 895 9) → (Xi T1 895 8 = mnV S from_ to % 256) → (raF S kind from_ to vals dfd = rvn S v8 (Xi S 8 (mnV S from_ to % 256).toNat) (12 - v9).toNat v9 v7) → n124 = (13 - v9).toNat → Rl lay0 (d + 1) m_me_readAdjective 124 [(0, .ref 895), (7, iv v7), (8, iv v8), (9, iv v9)] [] T1 (Q_me_readAdjective S kind from_ to vals dfd) := by
    intro n124
    induction n124 using Nat.strongRecOn with
    | ind n124 ih124 =>
      intro T1 hHT1 hFT1 v7 v8 v9 w4 w5 w6 w7 w8 w9 hmt hq124 hm124
      have w10 : Xi T1 5 3 = Xi S 5 3 := hFT1.x _ _ rfl
      have w11 : 0 ≤ Xi T1 895 8 ∧ Xi T1 895 8 ≤ 255 := hHT1.c _ _
      have w12 : -1 ≤ Xi T1 895 9 ∧ Xi T1 895 9 ≤ 11 := hHT1.c _ _
      have C176 : ∀  (T2 : sS) (_ : HI T2) (_ : FR md_me_readAdjective S T2) (v7 : Int) (v8 : Int) (v9 : Int), (0 ≤ v7 ∧ v7 ≤ 12) → (-2147483648 ≤ v8 ∧ v8 ≤ 2147483647) → (0 ≤ v9 ∧ v9 ≤ 11) → (0 ≤ v7 ∧ v7 ≤ v9 + 1) → (v9 ≤ 11) → (Xi T2 895 8 ≤ 63) → (v7 = 0 ∨ 0 ≤ Xi T2 895 9) → (Xi T2 895 8 = mnV S from_ to % 256) → (raF S kind from_ to vals dfd = rvn S v8 (Xi S 8 (mnV S from_ to % 256).toNat) (12 - (v9 + 1)).toNat (v9 + 1) v7) → ((13 - v9).toNat ≤ n124) → Rl lay0 (d + 1) m_me_readAdjective 176 [(0, .ref 895), (7, iv v7), (8, iv v8), (9, iv v9)] [] T2 (Q_me_readAdjective S kind from_ to vals dfd) := by
        intro T2 hHT2 hFT2 v7 v8 v9 w13 w14 w15 w16 w17 w18 w19 hmt2 hq176 w20
        have w21 : Xi T2 5 3 = Xi S 5 3 := hFT2.x _ _ rfl
        have w22 : 0 ≤ Xi T2 895 8 ∧ Xi T2 895 8 ≤ 255 := hHT2.c _ _
        have w23 : -1 ≤ Xi T2 895 9 ∧ Xi T2 895 9 ≤ 11 := hHT2.c _ _
        refine l_iinc rfl rfl rfl rfl ?_
        refine l_goto rfl rfl ?_
        exact Rl_weak (ih124 _ (by omega) T2 hHT2 hFT2 (v7) (v8) ((v9 + 1)) (by omega) (by omega) (by omega) (by omega) (by omega) (by omega) (by omega) (by first | exact hq176 | exact ra_v hmv hpps (by omega) (by omega)) rfl) (And.intro rfl (And.intro rfl (And.intro rfl (And.intro rfl (True.intro)))))
      refine l_iload rfl rfl ?_
      refine l_bipush rfl rfl ?_
      refine l_icmp_ge rfl rfl (by unfold rg; omega) (by unfold rg; omega) (fun w26 => ?_) (fun w27 => ?_)
      · refine l_iload rfl rfl ?_
        refine l_ireturn rfl rfl ?_
        exact ⟨hHT1, hFT1, _, rfl, ⟨by omega, by omega⟩, (by first | assumption | omega), (by first | exact (ra_0 hmv (by omega) (by omega)).symm | exact (ra_1 hmv (by omega) hisk (by omega)).symm | exact (ra_2 hmv (by omega) hisk (by omega)).symm | exact (hq124.trans (rvn_e (by omega))).symm)⟩
      · refine l_iload rfl rfl ?_
        refine l_iload rfl rfl ?_
        refine l_ishrF rfl ?_
        have w30 : -2147483648 ≤ (ishrF v8 v9) ∧ (ishrF v8 v9) ≤ 2147483647 := ishrF_rg
        refine l_iconst rfl ?_
        refine l_iandF rfl ?_
        have w31 : 0 ≤ (iandF (ishrF v8 v9) 1) ∧ (iandF (ishrF v8 v9) 1) ≤ 1 := iandF_le (by omega) (by unfold rg; omega)
        refine l_iconst rfl ?_
        refine l_icmp_ne rfl rfl (by unfold rg; omega) (by unfold rg; omega) (fun w32 => ?_) (fun w33 => ?_)
        · have w34 : 0 ≤ Xi T1 895 8 ∧ Xi T1 895 8 ≤ 255 := hHT1.c _ _
          exact Rl_weak (C176 T1 hHT1 hFT1 (v7) (v8) (v9) (by omega) (by omega) (by omega) (by omega) (by omega) (by omega) (by omega) (by omega) (by first | exact hq124.trans (rvn_y (by omega) ⟨by omega, by omega⟩) | exact hq124.trans (rvn_n (by omega) (by omega))) (by omega)) (And.intro rfl (And.intro rfl (And.intro rfl (And.intro rfl (True.intro)))))
        · refine l_aload_n rfl rfl ?_
          refine l_gfr rfl rfl rfl rfl rfl (hHT1.r 895 1 1 rfl) ?_
          refine l_gfr rfl rfl rfl rfl rfl (hHT1.r 1 8 9 rfl) ?_
          refine l_iload rfl rfl ?_
          refine l_iaload (n := 12) rfl rfl (by omega) (by omega) (by unfold rg; omega) ?_
          have w36 : 0 ≤ (Xi T1 9 ((v9).toNat)) ∧ (Xi T1 9 ((v9).toNat)) ≤ 7 := hHT1.c _ _
          have h9 : (Xi T1 9 ((v9).toNat)) = Xi S 9 (v9).toNat := (hFT1.cx 9 rfl _).1
          refine l_aload_n rfl rfl ?_
          refine l_gfr rfl rfl rfl rfl rfl (hHT1.r 895 1 1 rfl) ?_
          refine l_gfr rfl rfl rfl rfl rfl (hHT1.r 1 7 8 rfl) ?_
          refine l_aload_n rfl rfl ?_
          refine l_gfi rfl rfl rfl rfl rfl ?_
          refine l_iaload (n := 64) rfl rfl (by omega) (by omega) (by unfold rg; omega) ?_
          have w37 : 0 ≤ (Xi T1 8 (((Xi T1 895 8)).toNat)) ∧ (Xi T1 8 (((Xi T1 895 8)).toNat)) ≤ 7 := hHT1.c _ _
          have h8 : (Xi T1 8 (((Xi T1 895 8)).toNat)) = Xi S 8 (mnV S from_ to % 256).toNat := by rw [(hFT1.cx 8 rfl _).1]; exact congrArg (fun t : Int => Xi S 8 t.toNat) hmt
          refine l_icmp_ne rfl rfl (by unfold rg; omega) (by unfold rg; omega) (fun w38 => ?_) (fun w39 => ?_)
          · have w40 : 0 ≤ Xi T1 895 8 ∧ Xi T1 895 8 ≤ 255 := hHT1.c _ _
            exact Rl_weak (C176 T1 hHT1 hFT1 (v7) (v8) (v9) (by omega) (by omega) (by omega) (by omega) (by omega) (by omega) (by omega) (by omega) (by first | exact hq124.trans (rvn_y (by omega) ⟨by omega, by omega⟩) | exact hq124.trans (rvn_n (by omega) (by omega))) (by omega)) (And.intro rfl (And.intro rfl (And.intro rfl (And.intro rfl (True.intro)))))
          · refine l_aload_n rfl rfl ?_
            refine l_iload rfl rfl ?_
            refine l_pfi rfl rfl rfl rfl ?_
            obtain ⟨U3, eU3⟩ : ∃ T : sS, T = uI T1 895 9 (Int32.ofInt v9) := ⟨_, rfl⟩
            rw [← eU3]
            have hHU3 : HI U3 := by rw [eU3]; exact HI_w hHT1 (show -1 ≤ v9 by omega) (show v9 ≤ 11 by omega)
            have hFU3 : FR md_me_readAdjective S U3 := by rw [eU3]; exact FR.wI hFT1 (mdf_i (r := (895, 896, 9, 10)) (List.mem_of_getElem? (i := 1) rfl) (inR_i (by omega) (by omega) (by omega) (by omega)))
            have w42 : Xi U3 895 9 = v9 := by rw [eU3]; exact Xi_same (by unfold rg; omega)
            refine l_iinc rfl rfl rfl rfl ?_
            have w43 : Xi U3 895 8 = Xi T1 895 8 := (show Xi U3 895 8 = Xi T1 895 8 from by rw [eU3]; exact Xi_ne (by omega))
            have w45 : -1 ≤ Xi U3 895 9 ∧ Xi U3 895 9 ≤ 11 := hHU3.c _ _
            exact Rl_weak (C176 U3 hHU3 hFU3 ((v7 + 1)) (v8) (v9) (by omega) (by omega) (by omega) (by omega) (by omega) (by omega) (by omega) (by omega) (by first | exact hq124.trans (rvn_y (by omega) ⟨by omega, by omega⟩) | exact hq124.trans (rvn_n (by omega) (by omega))) (by omega)) (And.intro rfl (And.intro rfl (And.intro rfl (And.intro rfl (True.intro)))))
  refine l_aload_n rfl rfl ?_
  refine l_gfr rfl rfl rfl rfl rfl (hH.r 895 1 1 rfl) ?_
  refine l_aload_n rfl rfl ?_
  refine l_gfr rfl rfl rfl rfl rfl (hH.r 895 0 876 rfl) ?_
  refine l_gfr rfl rfl rfl rfl rfl (hH.r 876 2 879 rfl) ?_
  refine l_iload_n rfl rfl ?_
  refine l_iload_n rfl rfl ?_
  refine l_callV rfl rfl rfl (t_vo_meaning hH 879 5130 from_ to rfl ⟨by omega, by omega⟩ ⟨by omega, by omega⟩ ⟨by omega, by omega⟩ (by first | assumption | exact (LEX_FR hF rfl rfl (by assumption : LEX S))) _) ?_
  rintro _ _ ⟨rfl, z49, rfl, w49, w46, w47, w48⟩
  show Rl _ _ _ _ _ [iv z49] _ _
  have hmnz49 := mOK_n (z := z49) (by assumption)
  have hmv : mnV S from_ to = z49 := mnV_of (by assumption) (by assumption)
  refine l_istore rfl rfl rfl ?_
  refine l_aload_n rfl rfl ?_
  refine l_iload rfl rfl ?_
  refine l_sipush rfl rfl ?_
  refine l_iand255 rfl (by unfold rg; omega) ?_
  refine l_pfi rfl rfl rfl rfl ?_
  obtain ⟨U4, eU4⟩ : ∃ T : sS, T = uI S 895 8 (Int32.ofInt (z49 % 256)) := ⟨_, rfl⟩
  rw [← eU4]
  have hHU4 : HI U4 := by rw [eU4]; exact HI_w hH (show 0 ≤ (z49 % 256) by omega) (show (z49 % 256) ≤ 255 by omega)
  have hFU4 : FR md_me_readAdjective S U4 := by rw [eU4]; exact FR.wI hF (mdf_i (r := (895, 896, 8, 9)) (List.mem_of_getElem? (i := 0) rfl) (inR_i (by omega) (by omega) (by omega) (by omega)))
  have w51 : Xi U4 895 8 = (z49 % 256) := by rw [eU4]; exact Xi_same (by unfold rg; omega)
  refine l_aload_n rfl rfl ?_
  refine l_iconst rfl ?_
  refine l_pfi rfl rfl rfl rfl ?_
  obtain ⟨U5, eU5⟩ : ∃ T : sS, T = uI U4 895 9 (Int32.ofInt (-1)) := ⟨_, rfl⟩
  rw [← eU5]
  have hHU5 : HI U5 := by rw [eU5]; exact HI_w hHU4 (show -1 ≤ (-1) by omega) (show (-1) ≤ 11 by omega)
  have hFU5 : FR md_me_readAdjective S U5 := by rw [eU5]; exact FR.wI hFU4 (mdf_i (r := (895, 896, 9, 10)) (List.mem_of_getElem? (i := 1) rfl) (inR_i (by omega) (by omega) (by omega) (by omega)))
  have w52 : Xi U5 895 9 = (-1) := by rw [eU5]; exact Xi_same (by unfold rg; omega)
  refine l_iload rfl rfl ?_
  refine l_bipush rfl rfl ?_
  refine l_ishr8 rfl (by unfold rg; omega) ?_
  refine l_iconst rfl ?_
  refine l_icmp_ne rfl rfl (by unfold rg; omega) (by unfold rg; omega) (fun w54 => ?_) (fun w55 => ?_)
  · refine l_iload rfl rfl ?_
    refine l_bipush rfl rfl ?_
    refine l_ishr8 rfl (by unfold rg; omega) ?_
    refine l_iconst rfl ?_
    refine l_icmp_ne rfl rfl (by unfold rg; omega) (by unfold rg; omega) (fun w57 => ?_) (fun w58 => ?_)
    · refine l_iconst rfl ?_
      refine l_ireturn rfl rfl ?_
      have w59 : Xi U5 895 8 = Xi U4 895 8 := (show Xi U5 895 8 = Xi U4 895 8 from by rw [eU5]; exact Xi_ne (by omega))
      have w60 : 0 ≤ Xi U4 895 8 ∧ Xi U4 895 8 ≤ 255 := hHU4.c _ _
      have w61 : -1 ≤ Xi U5 895 9 ∧ Xi U5 895 9 ≤ 11 := hHU5.c _ _
      exact ⟨hHU5, hFU5, _, rfl, ⟨by omega, by omega⟩, (by first | assumption | omega), (by first | exact (ra_0 hmv (by omega) (by omega)).symm | exact (ra_1 hmv (by omega) hisk (by omega)).symm | exact (ra_2 hmv (by omega) hisk (by omega)).symm | exact (hq124.trans (rvn_e (by omega))).symm)⟩
    · refine l_iload rfl rfl ?_
      have hx4 := fb4 hH (lx (z := z49) (by assumption) (by omega) (by omega))
      refine l_if_ne rfl rfl (by unfold rg; omega) (fun w62 => ?_) (fun w63 => ?_)
      · refine l_iconst rfl ?_
        refine l_istore rfl rfl rfl ?_
        refine l_aload_n rfl rfl ?_
        refine l_gfr rfl rfl rfl rfl rfl (hHU5.r 895 1 1 rfl) ?_
        refine l_iload_n rfl rfl ?_
        refine l_callV rfl rfl rfl (t_vo_propertiesOf hHU5 kind ⟨by omega, by omega⟩ _) ?_
        rintro _ _ ⟨rfl, z65, rfl, w65, w64⟩
        show Rl _ _ _ _ _ [iv z65] _ _
        have hpps : z65 = pps S kind := ra_p hFU5 rfl (by assumption)
        refine l_istore rfl rfl rfl ?_
        refine l_iconst rfl ?_
        refine l_istore rfl rfl rfl ?_
        have w66 : Xi U5 895 8 = Xi U4 895 8 := (show Xi U5 895 8 = Xi U4 895 8 from by rw [eU5]; exact Xi_ne (by omega))
        have w67 : 0 ≤ Xi U4 895 8 ∧ Xi U4 895 8 ≤ 255 := hHU4.c _ _
        have w68 : -1 ≤ Xi U5 895 9 ∧ Xi U5 895 9 ≤ 11 := hHU5.c _ _
        exact Rl_weak (C124 _ U5 hHU5 hFU5 (0) (z65) (0) (by omega) (by omega) (by omega) (by omega) (by omega) (by omega) (by omega) (by first | exact hq176 | exact ra_v hmv hpps (by omega) (by omega)) rfl) (And.intro rfl (And.intro rfl (And.intro rfl (And.intro rfl (True.intro)))))
      · refine l_iconst rfl ?_
        refine l_ireturn rfl rfl ?_
        have w69 : Xi U5 895 8 = Xi U4 895 8 := (show Xi U5 895 8 = Xi U4 895 8 from by rw [eU5]; exact Xi_ne (by omega))
        have w70 : 0 ≤ Xi U4 895 8 ∧ Xi U4 895 8 ≤ 255 := hHU4.c _ _
        have w71 : -1 ≤ Xi U5 895 9 ∧ Xi U5 895 9 ≤ 11 := hHU5.c _ _
        exact ⟨hHU5, hFU5, _, rfl, ⟨by omega, by omega⟩, (by first | assumption | omega), (by first | exact (ra_0 hmv (by omega) (by omega)).symm | exact (ra_1 hmv (by omega) hisk (by omega)).symm | exact (ra_2 hmv (by omega) hisk (by omega)).symm | exact (hq124.trans (rvn_e (by omega))).symm)⟩
  · refine l_aload_n rfl rfl ?_
    have hx3 := fb3 hH (lx (z := z49) (by assumption) (by omega) (by omega))
    refine l_gfr rfl rfl rfl rfl rfl (hHU5.r 895 1 1 rfl) ?_
    refine l_iload_n rfl rfl ?_
    refine l_aload_n rfl rfl ?_
    refine l_gfr rfl rfl rfl rfl rfl (hHU5.r 895 1 1 rfl) ?_
    refine l_gfr rfl rfl rfl rfl rfl (hHU5.r 1 9 10 rfl) ?_
    refine l_aload_n rfl rfl ?_
    refine l_gfi rfl rfl rfl rfl rfl ?_
    have w72 : (Xi U5 895 8) = (Xi U4 895 8) := (show Xi U5 895 8 = Xi U4 895 8 from by rw [eU5]; exact Xi_ne (by omega))
    rw [w72]
    refine l_iaload (n := 24) rfl rfl (by omega) (by omega) (by unfold rg; omega) ?_
    have w73 : 0 ≤ (Xi U5 10 (((Xi U4 895 8)).toNat)) ∧ (Xi U5 10 (((Xi U4 895 8)).toNat)) ≤ 15 := hHU5.c _ _
    refine l_callV rfl rfl rfl (t_vo_isKind hHU5 kind (Xi U5 10 (((Xi U4 895 8)).toNat)) ⟨by omega, by omega⟩ ⟨by omega, by omega⟩ _) ?_
    rintro _ _ ⟨rfl, z75, rfl, w75, w74⟩
    show Rl _ _ _ _ _ [iv z75] _ _
    have hisk : z75 = isK S kind (Xi S 10 (z49 % 256).toNat) := ra_k hFU5 rfl (by assumption) (by omega)
    refine l_if_eq rfl rfl (by unfold rg; omega) (fun w76 => ?_) (fun w77 => ?_)
    · refine l_iconst rfl ?_
      refine l_ireturn rfl rfl ?_
      have w78 : Xi U5 895 8 = Xi U4 895 8 := (show Xi U5 895 8 = Xi U4 895 8 from by rw [eU5]; exact Xi_ne (by omega))
      have w79 : 0 ≤ Xi U4 895 8 ∧ Xi U4 895 8 ≤ 255 := hHU4.c _ _
      have w80 : -1 ≤ Xi U5 895 9 ∧ Xi U5 895 9 ≤ 11 := hHU5.c _ _
      exact ⟨hHU5, hFU5, _, rfl, ⟨by omega, by omega⟩, (by first | assumption | omega), (by first | exact (ra_0 hmv (by omega) (by omega)).symm | exact (ra_1 hmv (by omega) hisk (by omega)).symm | exact (ra_2 hmv (by omega) hisk (by omega)).symm | exact (hq124.trans (rvn_e (by omega))).symm)⟩
    · refine l_iload rfl rfl ?_
      refine l_if_ne rfl rfl (by unfold rg; omega) (fun w81 => ?_) (fun w82 => ?_)
      · refine l_iconst rfl ?_
        refine l_goto rfl rfl ?_
        refine l_ireturn rfl rfl ?_
        have w83 : Xi U5 895 8 = Xi U4 895 8 := (show Xi U5 895 8 = Xi U4 895 8 from by rw [eU5]; exact Xi_ne (by omega))
        have w84 : 0 ≤ Xi U4 895 8 ∧ Xi U4 895 8 ≤ 255 := hHU4.c _ _
        have w85 : -1 ≤ Xi U5 895 9 ∧ Xi U5 895 9 ≤ 11 := hHU5.c _ _
        exact ⟨hHU5, hFU5, _, rfl, ⟨by omega, by omega⟩, (by first | assumption | omega), (by first | exact (ra_0 hmv (by omega) (by omega)).symm | exact (ra_1 hmv (by omega) hisk (by omega)).symm | exact (ra_2 hmv (by omega) hisk (by omega)).symm | exact (hq124.trans (rvn_e (by omega))).symm)⟩
      · refine l_aload_n rfl rfl ?_
        refine l_gfr rfl rfl rfl rfl rfl (hHU5.r 895 1 1 rfl) ?_
        refine l_gfr rfl rfl rfl rfl rfl (hHU5.r 1 10 11 rfl) ?_
        refine l_aload_n rfl rfl ?_
        refine l_gfi rfl rfl rfl rfl rfl ?_
        have w86 : (Xi U5 895 8) = (Xi U4 895 8) := (show Xi U5 895 8 = Xi U4 895 8 from by rw [eU5]; exact Xi_ne (by omega))
        rw [w86]
        refine l_iaload (n := 24) rfl rfl (by omega) (by omega) (by unfold rg; omega) ?_
        have w87 : -1 ≤ (Xi U5 11 (((Xi U4 895 8)).toNat)) ∧ (Xi U5 11 (((Xi U4 895 8)).toNat)) ≤ 23 := hHU5.c _ _
        have h11 : (Xi U5 11 (((Xi U4 895 8)).toNat)) = Xi S 11 (z49 % 256).toNat := by rw [(hFU5.cx 11 rfl _).1]; exact congrArg (fun t : Int => Xi S 11 t.toNat) (by omega)
        refine l_iconst rfl ?_
        refine l_icmp_eq rfl rfl (by unfold rg; omega) (by unfold rg; omega) (fun w88 => ?_) (fun w89 => ?_)
        · refine l_iconst rfl ?_
          refine l_ireturn rfl rfl ?_
          have w90 : Xi U5 895 8 = Xi U4 895 8 := (show Xi U5 895 8 = Xi U4 895 8 from by rw [eU5]; exact Xi_ne (by omega))
          have w91 : 0 ≤ Xi U4 895 8 ∧ Xi U4 895 8 ≤ 255 := hHU4.c _ _
          have w92 : -1 ≤ Xi U5 895 9 ∧ Xi U5 895 9 ≤ 11 := hHU5.c _ _
          exact ⟨hHU5, hFU5, _, rfl, ⟨by omega, by omega⟩, (by first | assumption | omega), (by first | exact (ra_0 hmv (by omega) (by omega)).symm | exact (ra_1 hmv (by omega) hisk (by omega)).symm | exact (ra_2 hmv (by omega) hisk (by omega)).symm | exact (hq124.trans (rvn_e (by omega))).symm)⟩
        · refine l_iconst rfl ?_
          refine l_goto rfl rfl ?_
          refine l_ireturn rfl rfl ?_
          have w93 : Xi U5 895 8 = Xi U4 895 8 := (show Xi U5 895 8 = Xi U4 895 8 from by rw [eU5]; exact Xi_ne (by omega))
          have w94 : 0 ≤ Xi U4 895 8 ∧ Xi U4 895 8 ≤ 255 := hHU4.c _ _
          have w95 : -1 ≤ Xi U5 895 9 ∧ Xi U5 895 9 ≤ 11 := hHU5.c _ _
          exact ⟨hHU5, hFU5, _, rfl, ⟨by omega, by omega⟩, (by first | assumption | omega), (by first | exact (ra_0 hmv (by omega) (by omega)).symm | exact (ra_1 hmv (by omega) hisk (by omega)).symm | exact (ra_2 hmv (by omega) hisk (by omega)).symm | exact (hq124.trans (rvn_e (by omega))).symm)⟩
def md_me_readProperty : List rec := [(876, 877, 8, 9), (876, 877, 9, 10)]
abbrev Q_me_readProperty (S : sS) (from_ : Int) (to : Int) (kind : Int) (num : Int) : pst := fun r S1 => HI S1 ∧ FR md_me_readProperty S S1 ∧ (∃ z : Int, r = some (iv z) ∧ (-1 ≤ z ∧ z ≤ 11) ∧ (z ≠ -1 → num = 1 → Xi S 9 z.toNat = 0) ∧ (z = -1 → Xi S1 876 8 ≠ 0))
set_option maxRecDepth 100000 in
theorem t_me_readProperty {S : sS} (hH : HI S) (from_ : Int) (to : Int) (kind : Int) (num : Int) (hfrom_ : -1 ≤ from_ ∧ from_ ≤ 6000) (hto : -1 ≤ to ∧ to ≤ 6000) (hkind : -1 ≤ kind ∧ kind ≤ 15) (hnum : 0 ≤ num ∧ num ≤ 1) (hL : LEX S) (d : Nat) : Mt lay0 (d + 2) m_me_readProperty [.ref 895, iv from_, iv to, iv kind, iv num] S (Q_me_readProperty S from_ to kind num) := by
  refine Mt_R rfl rfl ?_
  have hF : FR md_me_readProperty S S := FR.rf
  refine l_aload_n rfl rfl ?_
  refine l_gfr rfl rfl rfl rfl rfl (hH.r 895 1 1 rfl) ?_
  refine l_aload_n rfl rfl ?_
  refine l_gfr rfl rfl rfl rfl rfl (hH.r 895 0 876 rfl) ?_
  refine l_gfr rfl rfl rfl rfl rfl (hH.r 876 2 879 rfl) ?_
  refine l_iload_n rfl rfl ?_
  refine l_iload_n rfl rfl ?_
  refine l_callV rfl rfl rfl (t_vo_meaning hH 879 5130 from_ to rfl ⟨by omega, by omega⟩ ⟨by omega, by omega⟩ ⟨by omega, by omega⟩ (by first | assumption | exact (LEX_FR hF rfl rfl (by assumption : LEX S))) _) ?_
  rintro _ _ ⟨rfl, z4, rfl, w4, w1, w2, w3⟩
  show Rl _ _ _ _ _ [iv z4] _ _
  have hmnz4 := mOK_n (z := z4) (by assumption)
  refine l_istore rfl rfl rfl ?_
  refine l_iload rfl rfl ?_
  refine l_sipush rfl rfl ?_
  refine l_iand255 rfl (by unfold rg; omega) ?_
  refine l_istore rfl rfl rfl ?_
  refine l_iload rfl rfl ?_
  refine l_bipush rfl rfl ?_
  refine l_ishr8 rfl (by unfold rg; omega) ?_
  refine l_iconst rfl ?_
  refine l_icmp_ne rfl rfl (by unfold rg; omega) (by unfold rg; omega) (fun w7 => ?_) (fun w8 => ?_)
  · refine l_aload_n rfl rfl ?_
    refine l_gfr rfl rfl rfl rfl rfl (hH.r 895 0 876 rfl) ?_
    refine l_iconst rfl ?_
    refine l_iload_n rfl rfl ?_
    refine l_callV rfl rfl rfl (t_to_wrong hH 4 from_ ⟨by omega, by omega⟩ ⟨by omega, by omega⟩ _) ?_
    rintro _ T1 ⟨hHT1, w12, z11, rfl, w11, w9, w10⟩
    have hFT1 : FR md_me_readProperty S T1 := FR.tr hF w12 rfl
    show Rl _ _ _ _ _ [iv z11] _ _
    refine l_pop rfl rfl ?_
    refine l_iconst rfl ?_
    refine l_ireturn rfl rfl ?_
    have w13 : 0 ≤ Xi T1 876 8 ∧ Xi T1 876 8 ≤ 9 := hHT1.c _ _
    exact ⟨hHT1, hFT1, _, rfl, ⟨by omega, by omega⟩, (by first | assumption | omega), (by first | assumption | omega)⟩
  · refine l_iload rfl rfl ?_
    have hx5 := fb5 hH (lx (z := z4) (by assumption) (by omega) (by omega))
    refine l_if_eq rfl rfl (by unfold rg; omega) (fun w14 => ?_) (fun w15 => ?_)
    · refine l_iload_n rfl rfl ?_
      refine l_iconst rfl ?_
      refine l_icmp_eq rfl rfl (by unfold rg; omega) (by unfold rg; omega) (fun w16 => ?_) (fun w17 => ?_)
      · refine l_iload rfl rfl ?_
        refine l_ireturn rfl rfl ?_
        have w18 : 0 ≤ Xi S 876 8 ∧ Xi S 876 8 ≤ 9 := hH.c _ _
        exact ⟨hH, hF, _, rfl, ⟨by omega, by omega⟩, (by first | assumption | omega), (by first | assumption | omega)⟩
      · refine l_aload_n rfl rfl ?_
        refine l_gfr rfl rfl rfl rfl rfl (hH.r 895 1 1 rfl) ?_
        refine l_iload_n rfl rfl ?_
        refine l_callV rfl rfl rfl (t_vo_propertiesOf hH kind ⟨by omega, by omega⟩ _) ?_
        rintro _ _ ⟨rfl, z20, rfl, w20, w19⟩
        show Rl _ _ _ _ _ [iv z20] _ _
        refine l_iload rfl rfl ?_
        refine l_ishrF rfl ?_
        have w21 : -2147483648 ≤ (ishrF z20 (z4 % 256)) ∧ (ishrF z20 (z4 % 256)) ≤ 2147483647 := ishrF_rg
        refine l_iconst rfl ?_
        refine l_iandF rfl ?_
        have w22 : 0 ≤ (iandF (ishrF z20 (z4 % 256)) 1) ∧ (iandF (ishrF z20 (z4 % 256)) 1) ≤ 1 := iandF_le (by omega) (by unfold rg; omega)
        refine l_if_ne rfl rfl (by unfold rg; omega) (fun w23 => ?_) (fun w24 => ?_)
        · refine l_iload rfl rfl ?_
          refine l_ireturn rfl rfl ?_
          have w25 : 0 ≤ Xi S 876 8 ∧ Xi S 876 8 ≤ 9 := hH.c _ _
          exact ⟨hH, hF, _, rfl, ⟨by omega, by omega⟩, (by first | assumption | omega), (by first | assumption | omega)⟩
        · refine l_aload_n rfl rfl ?_
          refine l_gfr rfl rfl rfl rfl rfl (hH.r 895 0 876 rfl) ?_
          refine l_iconst rfl ?_
          refine l_iload_n rfl rfl ?_
          refine l_callV rfl rfl rfl (t_to_wrong hH 4 from_ ⟨by omega, by omega⟩ ⟨by omega, by omega⟩ _) ?_
          rintro _ T2 ⟨hHT2, w29, z28, rfl, w28, w26, w27⟩
          have hFT2 : FR md_me_readProperty S T2 := FR.tr hF w29 rfl
          show Rl _ _ _ _ _ [iv z28] _ _
          refine l_pop rfl rfl ?_
          refine l_iconst rfl ?_
          refine l_ireturn rfl rfl ?_
          have w30 : 0 ≤ Xi T2 876 8 ∧ Xi T2 876 8 ≤ 9 := hHT2.c _ _
          exact ⟨hHT2, hFT2, _, rfl, ⟨by omega, by omega⟩, (by first | assumption | omega), (by first | assumption | omega)⟩
    · refine l_aload_n rfl rfl ?_
      refine l_gfr rfl rfl rfl rfl rfl (hH.r 895 1 1 rfl) ?_
      refine l_gfr rfl rfl rfl rfl rfl (hH.r 1 8 9 rfl) ?_
      refine l_iload rfl rfl ?_
      refine l_iaload (n := 12) rfl rfl (by omega) (by omega) (by unfold rg; omega) ?_
      have w31 : 0 ≤ (Xi S 9 (((z4 % 256)).toNat)) ∧ (Xi S 9 (((z4 % 256)).toNat)) ≤ 7 := hH.c _ _
      refine l_if_ne rfl rfl (by unfold rg; omega) (fun w32 => ?_) (fun w33 => ?_)
      · refine l_aload_n rfl rfl ?_
        refine l_gfr rfl rfl rfl rfl rfl (hH.r 895 0 876 rfl) ?_
        refine l_iconst rfl ?_
        refine l_iload_n rfl rfl ?_
        refine l_callV rfl rfl rfl (t_to_wrong hH 4 from_ ⟨by omega, by omega⟩ ⟨by omega, by omega⟩ _) ?_
        rintro _ T3 ⟨hHT3, w37, z36, rfl, w36, w34, w35⟩
        have hFT3 : FR md_me_readProperty S T3 := FR.tr hF w37 rfl
        show Rl _ _ _ _ _ [iv z36] _ _
        refine l_pop rfl rfl ?_
        refine l_iconst rfl ?_
        refine l_ireturn rfl rfl ?_
        have w38 : 0 ≤ Xi T3 876 8 ∧ Xi T3 876 8 ≤ 9 := hHT3.c _ _
        exact ⟨hHT3, hFT3, _, rfl, ⟨by omega, by omega⟩, (by first | assumption | omega), (by first | assumption | omega)⟩
      · refine l_iload_n rfl rfl ?_
        refine l_iconst rfl ?_
        refine l_icmp_eq rfl rfl (by unfold rg; omega) (by unfold rg; omega) (fun w39 => ?_) (fun w40 => ?_)
        · refine l_iload rfl rfl ?_
          refine l_ireturn rfl rfl ?_
          have w41 : 0 ≤ Xi S 876 8 ∧ Xi S 876 8 ≤ 9 := hH.c _ _
          exact ⟨hH, hF, _, rfl, ⟨by omega, by omega⟩, (by first | assumption | omega), (by first | assumption | omega)⟩
        · refine l_aload_n rfl rfl ?_
          refine l_gfr rfl rfl rfl rfl rfl (hH.r 895 1 1 rfl) ?_
          refine l_iload_n rfl rfl ?_
          refine l_callV rfl rfl rfl (t_vo_propertiesOf hH kind ⟨by omega, by omega⟩ _) ?_
          rintro _ _ ⟨rfl, z43, rfl, w43, w42⟩
          show Rl _ _ _ _ _ [iv z43] _ _
          refine l_iload rfl rfl ?_
          refine l_ishrF rfl ?_
          have w44 : -2147483648 ≤ (ishrF z43 (z4 % 256)) ∧ (ishrF z43 (z4 % 256)) ≤ 2147483647 := ishrF_rg
          refine l_iconst rfl ?_
          refine l_iandF rfl ?_
          have w45 : 0 ≤ (iandF (ishrF z43 (z4 % 256)) 1) ∧ (iandF (ishrF z43 (z4 % 256)) 1) ≤ 1 := iandF_le (by omega) (by unfold rg; omega)
          refine l_if_ne rfl rfl (by unfold rg; omega) (fun w46 => ?_) (fun w47 => ?_)
          · refine l_iload rfl rfl ?_
            refine l_ireturn rfl rfl ?_
            have w48 : 0 ≤ Xi S 876 8 ∧ Xi S 876 8 ≤ 9 := hH.c _ _
            exact ⟨hH, hF, _, rfl, ⟨by omega, by omega⟩, (by first | assumption | omega), (by first | assumption | omega)⟩
          · refine l_aload_n rfl rfl ?_
            refine l_gfr rfl rfl rfl rfl rfl (hH.r 895 0 876 rfl) ?_
            refine l_iconst rfl ?_
            refine l_iload_n rfl rfl ?_
            refine l_callV rfl rfl rfl (t_to_wrong hH 4 from_ ⟨by omega, by omega⟩ ⟨by omega, by omega⟩ _) ?_
            rintro _ T4 ⟨hHT4, w52, z51, rfl, w51, w49, w50⟩
            have hFT4 : FR md_me_readProperty S T4 := FR.tr hF w52 rfl
            show Rl _ _ _ _ _ [iv z51] _ _
            refine l_pop rfl rfl ?_
            refine l_iconst rfl ?_
            refine l_ireturn rfl rfl ?_
            have w53 : 0 ≤ Xi T4 876 8 ∧ Xi T4 876 8 ≤ 9 := hHT4.c _ _
            exact ⟨hHT4, hFT4, _, rfl, ⟨by omega, by omega⟩, (by first | assumption | omega), (by first | assumption | omega)⟩
def md_me_countParts : List rec := [(895, 896, 8, 9), (895, 896, 9, 10), (898, 899, 0, 100000)]
abbrev Q_me_countParts (S : sS) (kind : Int) (from_ : Int) (to : Int) (dfd : Int) : pst := fun r S1 => HI S1 ∧ FR md_me_countParts S S1 ∧ (∃ z : Int, r = some (iv z) ∧ (0 ≤ z ∧ z ≤ 4449744) ∧ (z = cpF S kind from_ to dfd) ∧ (0 ≤ to - from_ → to - from_ ≤ 6 → PRT S1 (fA S kind from_ dfd) (to - from_) (-1)))
set_option maxRecDepth 100000 in
theorem t_me_countParts {S : sS} (hH : HI S) (kind : Int) (from_ : Int) (to : Int) (dfd : Int) (hkind : 0 ≤ kind ∧ kind ≤ 15) (hfrom_ : -1 ≤ from_ ∧ from_ ≤ 5900) (hto : -1 ≤ to ∧ to ≤ 5900) (hdfd : 0 ≤ dfd ∧ dfd ≤ 1) (hL : LEX S) (d : Nat) : Mt lay0 (d + 3) m_me_countParts [.ref 895, iv kind, iv from_, iv to, iv dfd] S (Q_me_countParts S kind from_ to dfd) := by
  refine Mt_R rfl rfl ?_
  have hF : FR md_me_countParts S S := FR.rf
  have C33 : ∀ (n33 : Nat) (T1 : sS) (_ : HI T1) (_ : FR md_me_countParts S T1) (v5 : Int) (v6 : Int), (0 ≤ v5 ∧ v5 ≤ 6) → (-1 ≤ v6 ∧ v6 ≤ 5) → (v5 = to - from_) → (v6 < v5) → (PRT T1 (fA S kind from_ dfd) v5 v6) → n33 = (v6 - (-2)).toNat → Rl lay0 (d + 2) m_me_countParts 33 [(0, .ref 895), (1, iv kind), (2, iv from_), (4, iv dfd), (5, iv v5), (6, iv v6)] [] T1 (Q_me_countParts S kind from_ to dfd) := by
    intro n33
    induction n33 using Nat.strongRecOn with
    | ind n33 ih33 =>
      intro T1 hHT1 hFT1 v5 v6 w1 w2 hv5 w3 hp33 hm33
      have w4 : Xi T1 5 3 = Xi S 5 3 := hFT1.x _ _ rfl
      have C49 : ∀ (n49 : Nat) (T2 : sS) (_ : HI T2) (_ : FR md_me_countParts S T2) (v5 : Int) (v6 : Int) (v7 : Int), (0 ≤ v5 ∧ v5 ≤ 6) → (0 ≤ v6 ∧ v6 ≤ 5) → (1 ≤ v7 ∧ v7 ≤ 4) → (v5 = to - from_) → (v6 < v5) → (PRT T2 (fA S kind from_ dfd) v5 v6) → (Xi T2 898 v6.toNat = csum (fA S kind from_ dfd) v5 (v5 - v6).toNat (v7 - 1).toNat) → ((v6 - (-2)).toNat ≤ n33) → n49 = (5 - v7).toNat → Rl lay0 (d + 2) m_me_countParts 49 [(0, .ref 895), (1, iv kind), (2, iv from_), (4, iv dfd), (5, iv v5), (6, iv v6), (7, iv v7)] [] T2 (Q_me_countParts S kind from_ to dfd) := by
        intro n49
        induction n49 using Nat.strongRecOn with
        | ind n49 ih49 =>
          intro T2 hHT2 hFT2 v5 v6 v7 w5 w6 w7 hv49 w8 hp49 hs49 w9 hm49
          have w10 : Xi T2 5 3 = Xi S 5 3 := hFT2.x _ _ rfl
          have C118 : ∀  (T3 : sS) (_ : HI T3) (_ : FR md_me_countParts S T3) (v5 : Int) (v6 : Int) (v7 : Int), (1 ≤ v5 ∧ v5 ≤ 6) → (0 ≤ v6 ∧ v6 ≤ 5) → (1 ≤ v7 ∧ v7 ≤ 3) → (v5 = to - from_) → (v6 < v5) → (v6 + v7 ≤ v5) → (v7 ≤ 3) → (PRT T3 (fA S kind from_ dfd) v5 v6) → (Xi T3 898 v6.toNat = csum (fA S kind from_ dfd) v5 (v5 - v6).toNat v7.toNat) → ((v6 - (-2)).toNat ≤ n33) → ((5 - v7).toNat ≤ n49) → Rl lay0 (d + 2) m_me_countParts 118 [(0, .ref 895), (1, iv kind), (2, iv from_), (4, iv dfd), (5, iv v5), (6, iv v6), (7, iv v7)] [] T3 (Q_me_countParts S kind from_ to dfd) := by
            intro T3 hHT3 hFT3 v5 v6 v7 w11 w12 w13 hv118 w14 w15 w16 hp118 hs118 w17 w18
            have w19 : Xi T3 5 3 = Xi S 5 3 := hFT3.x _ _ rfl
            refine l_iinc rfl rfl rfl rfl ?_
            refine l_goto rfl rfl ?_
            exact Rl_weak (ih49 _ (by omega) T3 hHT3 hFT3 (v5) (v6) ((v7 + 1)) (by omega) (by omega) (by omega) (by omega) (by omega) (by first | exact hp118 | exact PRT_w rfl (by omega) (by omega) hp33) (by first | (rw [show v7 + 1 - 1 = v7 by omega]; exact hs118) | exact (show Xi T3 898 v6.toNat = 0 by omega)) (by omega) rfl) (And.intro rfl (And.intro rfl (And.intro rfl (And.intro rfl (And.intro rfl (And.intro rfl (And.intro rfl (True.intro))))))))
          have C124 : ∀  (T4 : sS) (_ : HI T4) (_ : FR md_me_countParts S T4) (v5 : Int) (v6 : Int), (0 ≤ v5 ∧ v5 ≤ 6) → (0 ≤ v6 ∧ v6 ≤ 5) → (v5 = to - from_) → (v6 < v5) → (PRT T4 (fA S kind from_ dfd) v5 v6) → (Xi T4 898 v6.toNat = cpf (fA S kind from_ dfd) v5 (v5 - v6).toNat) → ((v6 - (-2)).toNat ≤ n33) → Rl lay0 (d + 2) m_me_countParts 124 [(0, .ref 895), (1, iv kind), (2, iv from_), (4, iv dfd), (5, iv v5), (6, iv v6)] [] T4 (Q_me_countParts S kind from_ to dfd) := by
            intro T4 hHT4 hFT4 v5 v6 w20 w21 hv124 w22 hp124 hs124 w23
            have w24 : Xi T4 5 3 = Xi S 5 3 := hFT4.x _ _ rfl
            refine l_iinc rfl rfl rfl rfl ?_
            refine l_goto rfl rfl ?_
            exact Rl_weak (ih33 _ (by omega) T4 hHT4 hFT4 (v5) ((v6 + (-1))) (by omega) (by omega) (by omega) (by omega) (by first | exact PRT_0 rfl | exact PRT_s hp124 hs124) rfl) (And.intro rfl (And.intro rfl (And.intro rfl (And.intro rfl (And.intro rfl (And.intro rfl (True.intro)))))))
          refine l_iload rfl rfl ?_
          refine l_iconst rfl ?_
          refine l_icmp_gt rfl rfl (by unfold rg; omega) (by unfold rg; omega) (fun w25 => ?_) (fun w26 => ?_)
          · exact Rl_weak (C124 T2 hHT2 hFT2 (v5) (v6) (by omega) (by omega) (by omega) (by omega) (by exact hp49) (by rw [hs49]; exact csum_end (by omega) (by omega) (by omega)) (by omega)) (And.intro rfl (And.intro rfl (And.intro rfl (And.intro rfl (And.intro rfl (And.intro rfl (True.intro)))))))
          · refine l_iload rfl rfl ?_
            refine l_iload rfl rfl ?_
            refine l_iadd rfl ?_
            refine l_iload rfl rfl ?_
            refine l_icmp_gt rfl rfl (by unfold rg; omega) (by unfold rg; omega) (fun w27 => ?_) (fun w28 => ?_)
            · exact Rl_weak (C124 T2 hHT2 hFT2 (v5) (v6) (by omega) (by omega) (by omega) (by omega) (by exact hp49) (by rw [hs49]; exact csum_end (by omega) (by omega) (by omega)) (by omega)) (And.intro rfl (And.intro rfl (And.intro rfl (And.intro rfl (And.intro rfl (And.intro rfl (True.intro)))))))
            · refine l_aload_n rfl rfl ?_
              refine l_gfr rfl rfl rfl rfl rfl (hHT2.r 895 17 898 rfl) ?_
              refine l_iload rfl rfl ?_
              refine l_iload rfl rfl ?_
              refine l_iadd rfl ?_
              refine l_iaload (n := 7) rfl rfl (by omega) (by omega) (by unfold rg; omega) ?_
              have w29 : -2147483648 ≤ (Xi T2 898 (((v6 + v7)).toNat)) ∧ (Xi T2 898 (((v6 + v7)).toNat)) ≤ 2147483647 := Xi_rgI
              have hpn : (Xi T2 898 (((v6 + v7)).toNat)) = cpf (fA S kind from_ dfd) v5 (v5 - (v6 + v7)).toNat := hp49 (v6 + v7) (by omega) (by omega)
              have hpb := cpf_bb (f := fA S kind from_ dfd) (z := v5) (m := (v5 - (v6 + v7)).toNat) fA_b (by omega)
              have hsb := csum_bb (f := fA S kind from_ dfd) (z := v5) (m := (v5 - v6).toNat) fA_b (by omega) (v7 - 1).toNat
              refine l_if_le rfl rfl (by unfold rg; omega) (fun w30 => ?_) (fun w31 => ?_)
              · exact Rl_weak (C118 T2 hHT2 hFT2 (v5) (v6) (v7) (by omega) (by omega) (by omega) (by omega) (by omega) (by omega) (by omega) (by first | exact hp49 | exact PRT_w rfl (by omega) (by omega) hp5) (by first | (rw [csum_n (by omega) (by omega) (by omega) hpn (by omega)]; omega) | (rw [csum_y (by omega) (by omega) (by omega) hpn hra]; omega)) (by omega) (by omega)) (And.intro rfl (And.intro rfl (And.intro rfl (And.intro rfl (And.intro rfl (And.intro rfl (And.intro rfl (True.intro))))))))
              · refine l_aload_n rfl rfl ?_
                refine l_gfr rfl rfl rfl rfl rfl (hHT2.r 895 17 898 rfl) ?_
                refine l_iload rfl rfl ?_
                refine l_dup2 rfl rfl ?_
                refine l_iaload (n := 7) rfl rfl (by omega) (by omega) (by unfold rg; omega) ?_
                have w32 : -2147483648 ≤ (Xi T2 898 ((v6).toNat)) ∧ (Xi T2 898 ((v6).toNat)) ≤ 2147483647 := Xi_rgI
                refine l_aload_n rfl rfl ?_
                refine l_gfr rfl rfl rfl rfl rfl (hHT2.r 895 17 898 rfl) ?_
                refine l_iload rfl rfl ?_
                refine l_iload rfl rfl ?_
                refine l_iadd rfl ?_
                refine l_iaload (n := 7) rfl rfl (by omega) (by omega) (by unfold rg; omega) ?_
                refine l_aload_n rfl rfl ?_
                refine l_iload_n rfl rfl ?_
                refine l_iload_n rfl rfl ?_
                refine l_iload rfl rfl ?_
                refine l_iadd rfl ?_
                refine l_iload_n rfl rfl ?_
                refine l_iload rfl rfl ?_
                refine l_iadd rfl ?_
                refine l_iload rfl rfl ?_
                refine l_iadd rfl ?_
                refine l_iconst rfl ?_
                refine l_iload rfl rfl ?_
                have w33 : 0 ≤ Xi T2 5 3 ∧ Xi T2 5 3 ≤ 24 := hHT2.c _ _
                refine l_callV rfl rfl rfl (t_me_readAdjective hHT2 kind (from_ + v6) ((from_ + v6) + v7) 1 dfd ⟨by omega, by omega⟩ ⟨by omega, by omega⟩ ⟨by omega, by omega⟩ ⟨by omega, by omega⟩ ⟨by omega, by omega⟩ (by first | assumption | exact (LEX_FR hFT2 rfl rfl (by assumption : LEX S))) _) ?_
                rintro _ T5 ⟨hHT5, w37, z36, rfl, w36, w34, w35⟩
                have hFT5 : FR md_me_countParts S T5 := FR.tr hFT2 w37 rfl
                show Rl _ _ _ _ _ [iv z36, iv (Xi T2 898 (((v6 + v7)).toNat)), iv (Xi T2 898 ((v6).toNat)), iv v6, .ref 898] _ _
                have hra : z36 = fA S kind from_ dfd v6 (v6 + v7) := ra_f (by assumption) (by assumption : FR md_me_countParts S T2) rfl
                have hp5 : PRT T5 (fA S kind from_ dfd) v5 v6 := PRT_FR (by assumption : FR md_me_readAdjective T2 T5) rfl hp49
                refine l_imul rfl ?_
                have w38 : 0 ≤ ((Xi T2 898 (((v6 + v7)).toNat)) * z36) ∧ ((Xi T2 898 (((v6 + v7)).toNat)) * z36) ≤ 4449744 * 12 := mulb ⟨by omega, by omega⟩ ⟨by omega, by omega⟩
                refine l_iadd rfl ?_
                refine l_iastore (n := 7) rfl rfl (by omega) (by omega) (by unfold rg; omega) ?_
                obtain ⟨U6, eU6⟩ : ∃ T : sS, T = uI T5 898 ((v6).toNat) (Int32.ofInt ((Xi T2 898 ((v6).toNat)) + ((Xi T2 898 (((v6 + v7)).toNat)) * z36))) := ⟨_, rfl⟩
                rw [← eU6]
                have hHU6 : HI U6 := by rw [eU6]; exact HI_any hHT5 (rfl)
                have hFU6 : FR md_me_countParts S U6 := by rw [eU6]; exact FR.wI hFT5 (mdf_i (r := (898, 899, 0, 100000)) (List.mem_of_getElem? (i := 2) rfl) (inR_i (by omega) (by omega) (by omega) (by omega)))
                have w39 : Xi U6 898 ((v6).toNat) = ((Xi T2 898 ((v6).toNat)) + ((Xi T2 898 (((v6 + v7)).toNat)) * z36)) := by rw [eU6]; exact Xi_same (by unfold rg; omega)
                exact Rl_weak (C118 U6 hHU6 hFU6 (v5) (v6) (v7) (by omega) (by omega) (by omega) (by omega) (by omega) (by omega) (by omega) (by first | exact hp49 | exact PRT_w eU6 (by omega) (by omega) hp5) (by first | (rw [csum_n (by omega) (by omega) (by omega) hpn (by omega)]; omega) | (rw [csum_y (by omega) (by omega) (by omega) hpn hra]; omega)) (by omega) (by omega)) (And.intro rfl (And.intro rfl (And.intro rfl (And.intro rfl (And.intro rfl (And.intro rfl (And.intro rfl (True.intro))))))))
      refine l_iload rfl rfl ?_
      refine l_if_lt rfl rfl (by unfold rg; omega) (fun w40 => ?_) (fun w41 => ?_)
      · refine l_aload_n rfl rfl ?_
        refine l_gfr rfl rfl rfl rfl rfl (hHT1.r 895 17 898 rfl) ?_
        refine l_iconst rfl ?_
        refine l_iaload (n := 7) rfl rfl (by omega) (by omega) (by unfold rg; omega) ?_
        have w42 : -2147483648 ≤ (Xi T1 898 ((0 : Int).toNat)) ∧ (Xi T1 898 ((0 : Int).toNat)) ≤ 2147483647 := Xi_rgI
        have w43 : (Xi T1 898 ((0 : Int).toNat)) = Xi T1 898 0 := rfl
        have hz0 : (Xi T1 898 ((0 : Int).toNat)) = cpf (fA S kind from_ dfd) v5 v5.toNat := by have t := hp33 0 (by omega) (by omega); rw [show (v5 - 0).toNat = v5.toNat by omega] at t; exact t
        have hzb := cpf_bb (f := fA S kind from_ dfd) (z := v5) (m := v5.toNat) fA_b (by omega)
        refine l_ireturn rfl rfl ?_
        exact ⟨hHT1, hFT1, _, rfl, ⟨by omega, by omega⟩, (by first | exact cpF_0 (by omega) | exact cpF_of (by omega) (by omega) (by rw [← hv5]; exact hz0)), (by first | (intro a b; omega) | exact fun _ _ q a b => by rw [← hv5]; exact hp33 q (by omega) (by omega))⟩
      · refine l_aload_n rfl rfl ?_
        refine l_gfr rfl rfl rfl rfl rfl (hHT1.r 895 17 898 rfl) ?_
        refine l_iload rfl rfl ?_
        refine l_iconst rfl ?_
        refine l_iastore (n := 7) rfl rfl (by omega) (by omega) (by unfold rg; omega) ?_
        obtain ⟨U7, eU7⟩ : ∃ T : sS, T = uI T1 898 ((v6).toNat) (Int32.ofInt 0) := ⟨_, rfl⟩
        rw [← eU7]
        have hHU7 : HI U7 := by rw [eU7]; exact HI_any hHT1 (rfl)
        have hFU7 : FR md_me_countParts S U7 := by rw [eU7]; exact FR.wI hFT1 (mdf_i (r := (898, 899, 0, 100000)) (List.mem_of_getElem? (i := 2) rfl) (inR_i (by omega) (by omega) (by omega) (by omega)))
        have w44 : Xi U7 898 ((v6).toNat) = 0 := by rw [eU7]; exact Xi_same (by unfold rg; omega)
        refine l_iconst rfl ?_
        refine l_istore rfl rfl rfl ?_
        exact Rl_weak (C49 _ U7 hHU7 hFU7 (v5) (v6) (1) (by omega) (by omega) (by omega) (by omega) (by omega) (by first | exact hp118 | exact PRT_w eU7 (by omega) (by omega) hp33) (by first | (rw [show v7 + 1 - 1 = v7 by omega]; exact hs118) | exact (show Xi U7 898 v6.toNat = 0 by omega)) (by omega) rfl) (And.intro rfl (And.intro rfl (And.intro rfl (And.intro rfl (And.intro rfl (And.intro rfl (And.intro rfl (True.intro))))))))
  refine l_iload_n rfl rfl ?_
  refine l_iload_n rfl rfl ?_
  refine l_isub rfl ?_
  refine l_istore rfl rfl rfl ?_
  refine l_iload rfl rfl ?_
  refine l_if_lt rfl rfl (by unfold rg; omega) (fun w45 => ?_) (fun w46 => ?_)
  · refine l_iconst rfl ?_
    refine l_ireturn rfl rfl ?_
    exact ⟨hH, hF, _, rfl, ⟨by omega, by omega⟩, (by first | exact cpF_0 (by omega) | exact cpF_of (by omega) (by omega) (by rw [← hv5]; exact hz0)), (by first | (intro a b; omega) | exact fun _ _ q a b => by rw [← hv5]; exact hp33 q (by omega) (by omega))⟩
  · refine l_iload rfl rfl ?_
    refine l_bipush rfl rfl ?_
    refine l_icmp_le rfl rfl (by unfold rg; omega) (by unfold rg; omega) (fun w47 => ?_) (fun w48 => ?_)
    · refine l_aload_n rfl rfl ?_
      refine l_gfr rfl rfl rfl rfl rfl (hH.r 895 17 898 rfl) ?_
      refine l_iload rfl rfl ?_
      refine l_iconst rfl ?_
      refine l_iastore (n := 7) rfl rfl (by omega) (by omega) (by unfold rg; omega) ?_
      obtain ⟨U8, eU8⟩ : ∃ T : sS, T = uI S 898 (((to - from_)).toNat) (Int32.ofInt 1) := ⟨_, rfl⟩
      rw [← eU8]
      have hHU8 : HI U8 := by rw [eU8]; exact HI_any hH (rfl)
      have hFU8 : FR md_me_countParts S U8 := by rw [eU8]; exact FR.wI hF (mdf_i (r := (898, 899, 0, 100000)) (List.mem_of_getElem? (i := 2) rfl) (inR_i (by omega) (by omega) (by omega) (by omega)))
      have w49 : Xi U8 898 (((to - from_)).toNat) = 1 := by rw [eU8]; exact Xi_same (by unfold rg; omega)
      refine l_iload rfl rfl ?_
      refine l_iconst rfl ?_
      refine l_isub rfl ?_
      refine l_istore rfl rfl rfl ?_
      exact Rl_weak (C33 _ U8 hHU8 hFU8 ((to - from_)) (((to - from_) - 1)) (by omega) (by omega) (by omega) (by omega) (by first | exact PRT_0 eU8 | exact PRT_s hp124 hs124) rfl) (And.intro rfl (And.intro rfl (And.intro rfl (And.intro rfl (And.intro rfl (And.intro rfl (True.intro)))))))
    · refine l_iconst rfl ?_
      refine l_ireturn rfl rfl ?_
      exact ⟨hH, hF, _, rfl, ⟨by omega, by omega⟩, (by first | exact cpF_0 (by omega) | exact cpF_of (by omega) (by omega) (by rw [← hv5]; exact hz0)), (by first | (intro a b; omega) | exact fun _ _ q a b => by rw [← hv5]; exact hp33 q (by omega) (by omega))⟩
def md_me_countReadings : List rec := [(895, 896, 8, 9), (895, 896, 9, 10), (895, 896, 12, 13), (895, 896, 13, 14), (898, 899, 0, 100000)]
abbrev Q_me_countReadings (S : sS) (from_ : Int) (to : Int) (plur : Int) (dfd : Int) (least : Int) : pst := fun r S1 => HI S1 ∧ FR md_me_countReadings S S1 ∧ (∃ z : Int, r = some (iv z) ∧ (0 ≤ z ∧ z ≤ 13349232) ∧ (z ≠ 0 → from_ ≤ Xi S1 895 13 ∧ Xi S1 895 13 - from_ ≤ 5 ∧ Xi S1 895 13 ≤ to) ∧ (z ≠ 0 → 0 < cpF S (Xi S1 895 12) from_ (Xi S1 895 13) dfd))
set_option maxRecDepth 100000 in
theorem t_me_countReadings {S : sS} (hH : HI S) (from_ : Int) (to : Int) (plur : Int) (dfd : Int) (least : Int) (hfrom_ : 0 ≤ from_ ∧ from_ ≤ 5140) (hto : 0 ≤ to ∧ to ≤ 5140) (hplur : 0 ≤ plur ∧ plur ≤ 1) (hdfd : 0 ≤ dfd ∧ dfd ≤ 1) (hleast : -1 ≤ least ∧ least ≤ 15) (hL : LEX S) (d : Nat) : Mt lay0 (d + 4) m_me_countReadings [.ref 895, iv from_, iv to, iv plur, iv dfd, iv least] S (Q_me_countReadings S from_ to plur dfd least) := by
  refine Mt_R rfl rfl ?_
  have hF : FR md_me_countReadings S S := FR.rf
  have w1 : 0 ≤ Xi S 895 12 ∧ Xi S 895 12 ≤ 15 := hH.c _ _
  have w2 : -2147483648 ≤ Xi S 895 13 ∧ Xi S 895 13 ≤ 2147483647 := Xi_rgI
  have C6 : ∀ (n6 : Nat) (T1 : sS) (_ : HI T1) (_ : FR md_me_countReadings S T1) (v6 : Int) (v7 : Int), (-2147483648 ≤ v6 ∧ v6 ≤ 2147483647) → (1 ≤ v7 ∧ v7 ≤ 4) → (v6 = 0 ∨ (from_ ≤ Xi T1 895 13 ∧ Xi T1 895 13 - from_ ≤ 5 ∧ Xi T1 895 13 ≤ to)) → (v6 ≠ 0 → 0 < cpF S (Xi T1 895 12) from_ (Xi T1 895 13) dfd) → (0 ≤ v6 ∧ v6 ≤ 4449744 * (v7 - 1)) → n6 = (5 - v7).toNat → Rl lay0 (d + 3) m_me_countReadings 6 [(0, .ref 895), (1, iv from_), (2, iv to), (3, iv plur), (4, iv dfd), (5, iv least), (6, iv v6), (7, iv v7)] [] T1 (Q_me_countReadings S from_ to plur dfd least) := by
    intro n6
    induction n6 using Nat.strongRecOn with
    | ind n6 ih6 =>
      intro T1 hHT1 hFT1 v6 v7 w3 w4 w5 hcr6 w6 hm6
      have w7 : 0 ≤ Xi T1 895 12 ∧ Xi T1 895 12 ≤ 15 := hHT1.c _ _
      have w8 : -2147483648 ≤ Xi T1 895 13 ∧ Xi T1 895 13 ≤ 2147483647 := Xi_rgI
      have C119 : ∀  (T2 : sS) (_ : HI T2) (_ : FR md_me_countReadings S T2) (v6 : Int) (v7 : Int), (-2147483648 ≤ v6 ∧ v6 ≤ 2147483647) → (1 ≤ v7 ∧ v7 ≤ 3) → (v6 = 0 ∨ (from_ ≤ Xi T2 895 13 ∧ Xi T2 895 13 - from_ ≤ 5 ∧ Xi T2 895 13 ≤ to)) → (v6 ≠ 0 → 0 < cpF S (Xi T2 895 12) from_ (Xi T2 895 13) dfd) → (0 ≤ v6 ∧ v6 ≤ 4449744 * v7) → ((5 - v7).toNat ≤ n6) → Rl lay0 (d + 3) m_me_countReadings 119 [(0, .ref 895), (1, iv from_), (2, iv to), (3, iv plur), (4, iv dfd), (5, iv least), (6, iv v6), (7, iv v7)] [] T2 (Q_me_countReadings S from_ to plur dfd least) := by
        intro T2 hHT2 hFT2 v6 v7 w9 w10 w11 hcr119 w12 w13
        have w14 : 0 ≤ Xi T2 895 12 ∧ Xi T2 895 12 ≤ 15 := hHT2.c _ _
        have w15 : -2147483648 ≤ Xi T2 895 13 ∧ Xi T2 895 13 ≤ 2147483647 := Xi_rgI
        refine l_iinc rfl rfl rfl rfl ?_
        refine l_goto rfl rfl ?_
        exact Rl_weak (ih6 _ (by omega) T2 hHT2 hFT2 (v6) ((v7 + 1)) (by omega) (by omega) (by omega) (by first | exact hcr119 | exact hcr6 | (intro h; omega) | exact cr_t hcr6 (by omega) (by omega) | exact cr_t hcr119 (by omega) (by omega) | (intro _; rw [show Xi T2 895 12 = $L8 by omega, show Xi T2 895 13 = to - v7 by omega]; omega)) (by omega) rfl) (And.intro rfl (And.intro rfl (And.intro rfl (And.intro rfl (And.intro rfl (And.intro rfl (And.intro rfl (And.intro rfl (True.intro)))))))))
      have C125 : ∀  (T3 : sS) (_ : HI T3) (_ : FR md_me_countReadings S T3) (v6 : Int), (-2147483648 ≤ v6 ∧ v6 ≤ 2147483647) → (v6 = 0 ∨ (from_ ≤ Xi T3 895 13 ∧ Xi T3 895 13 - from_ ≤ 5 ∧ Xi T3 895 13 ≤ to)) → (v6 ≠ 0 → 0 < cpF S (Xi T3 895 12) from_ (Xi T3 895 13) dfd) → (0 ≤ v6 ∧ v6 ≤ 13349232) → Rl lay0 (d + 3) m_me_countReadings 125 [(6, iv v6)] [] T3 (Q_me_countReadings S from_ to plur dfd least) := by
        intro T3 hHT3 hFT3 v6 w17 w18 hcr125 w19
        have w20 : 0 ≤ Xi T3 895 12 ∧ Xi T3 895 12 ≤ 15 := hHT3.c _ _
        have w21 : -2147483648 ≤ Xi T3 895 13 ∧ Xi T3 895 13 ≤ 2147483647 := Xi_rgI
        refine l_iload rfl rfl ?_
        refine l_ireturn rfl rfl ?_
        exact ⟨hHT3, hFT3, _, rfl, ⟨by omega, by omega⟩, (by omega), (by first | exact hcr125)⟩
      refine l_iload rfl rfl ?_
      refine l_iconst rfl ?_
      refine l_icmp_gt rfl rfl (by unfold rg; omega) (by unfold rg; omega) (fun w23 => ?_) (fun w24 => ?_)
      · have w25 : 0 ≤ Xi T1 895 12 ∧ Xi T1 895 12 ≤ 15 := hHT1.c _ _
        exact Rl_weak (C125 T1 hHT1 hFT1 (v6) (by omega) (by omega) (by first | exact hcr119 | exact hcr6 | (intro h; omega) | exact cr_t hcr6 (by omega) (by omega) | exact cr_t hcr119 (by omega) (by omega) | (intro _; rw [show Xi T1 895 12 = $L8 by omega, show Xi T1 895 13 = to - v7 by omega]; omega)) (by omega)) (And.intro rfl (True.intro))
      · refine l_iload rfl rfl ?_
        refine l_iload_n rfl rfl ?_
        refine l_iload_n rfl rfl ?_
        refine l_isub rfl ?_
        refine l_icmp_gt rfl rfl (by unfold rg; omega) (by unfold rg; omega) (fun w26 => ?_) (fun w27 => ?_)
        · have w28 : 0 ≤ Xi T1 895 12 ∧ Xi T1 895 12 ≤ 15 := hHT1.c _ _
          exact Rl_weak (C125 T1 hHT1 hFT1 (v6) (by omega) (by omega) (by first | exact hcr119 | exact hcr6 | (intro h; omega) | exact cr_t hcr6 (by omega) (by omega) | exact cr_t hcr119 (by omega) (by omega) | (intro _; rw [show Xi T1 895 12 = $L8 by omega, show Xi T1 895 13 = to - v7 by omega]; omega)) (by omega)) (And.intro rfl (True.intro))
        · refine l_iload_n rfl rfl ?_
          refine l_iload_n rfl rfl ?_
          refine l_isub rfl ?_
          refine l_bipush rfl rfl ?_
          refine l_icmp_gt rfl rfl (by unfold rg; omega) (by unfold rg; omega) (fun w29 => ?_) (fun w30 => ?_)
          · have w31 : 0 ≤ Xi T1 895 12 ∧ Xi T1 895 12 ≤ 15 := hHT1.c _ _
            exact Rl_weak (C125 T1 hHT1 hFT1 (v6) (by omega) (by omega) (by first | exact hcr119 | exact hcr6 | (intro h; omega) | exact cr_t hcr6 (by omega) (by omega) | exact cr_t hcr119 (by omega) (by omega) | (intro _; rw [show Xi T1 895 12 = $L8 by omega, show Xi T1 895 13 = to - v7 by omega]; omega)) (by omega)) (And.intro rfl (True.intro))
          · refine l_aload_n rfl rfl ?_
            refine l_iload_n rfl rfl ?_
            refine l_if_eq rfl rfl (by unfold rg; omega) (fun w32 => ?_) (fun w33 => ?_)
            · refine l_iconst rfl ?_
              refine l_iload_n rfl rfl ?_
              refine l_iload rfl rfl ?_
              refine l_isub rfl ?_
              refine l_iload_n rfl rfl ?_
              refine l_callV rfl rfl rfl (t_me_find hHT1 0 (to - v7) to ⟨by omega, by omega⟩ ⟨by omega, by omega⟩ ⟨by omega, by omega⟩ (by first | assumption | exact (LEX_FR hFT1 rfl rfl (by assumption : LEX S))) _) ?_
              rintro _ _ ⟨rfl, z37, rfl, w37, w34, w35, w36⟩
              have w38 : z37 ≠ -1 → _ := fun h => fb0 hHT1 (w34 h)
              show Rl _ _ _ _ _ [iv z37] _ _
              refine l_istore rfl rfl rfl ?_
              refine l_iload rfl rfl ?_
              refine l_iconst rfl ?_
              refine l_icmp_eq rfl rfl (by unfold rg; omega) (by unfold rg; omega) (fun w39 => ?_) (fun w40 => ?_)
              · have w41 : 0 ≤ Xi T1 895 12 ∧ Xi T1 895 12 ≤ 15 := hHT1.c _ _
                exact Rl_weak (C119 T1 hHT1 hFT1 (v6) (v7) (by omega) (by omega) (by omega) (by first | exact hcr119 | exact hcr6 | (intro h; omega) | exact cr_t hcr6 (by omega) (by omega) | exact cr_t hcr119 (by omega) (by omega) | (intro _; rw [show Xi T1 895 12 = z37 by omega, show Xi T1 895 13 = to - v7 by omega]; omega)) (by omega) (by omega)) (And.intro rfl (And.intro rfl (And.intro rfl (And.intro rfl (And.intro rfl (And.intro rfl (And.intro rfl (And.intro rfl (True.intro)))))))))
              · refine l_iload rfl rfl ?_
                refine l_iconst rfl ?_
                refine l_icmp_eq rfl rfl (by unfold rg; omega) (by unfold rg; omega) (fun w42 => ?_) (fun w43 => ?_)
                · refine l_aload_n rfl rfl ?_
                  refine l_iload rfl rfl ?_
                  refine l_iload_n rfl rfl ?_
                  refine l_iload_n rfl rfl ?_
                  refine l_iload rfl rfl ?_
                  refine l_isub rfl ?_
                  refine l_iload rfl rfl ?_
                  refine l_callV rfl rfl rfl (t_me_countParts hHT1 z37 from_ (to - v7) dfd ⟨by omega, by omega⟩ ⟨by omega, by omega⟩ ⟨by omega, by omega⟩ ⟨by omega, by omega⟩ (by first | assumption | exact (LEX_FR hFT1 rfl rfl (by assumption : LEX S))) _) ?_
                  rintro _ T4 ⟨hHT4, w47, z46, rfl, w46, w44, w45⟩
                  have hFT4 : FR md_me_countReadings S T4 := FR.tr hFT1 w47 rfl
                  show Rl _ _ _ _ _ [iv z46] _ _
                  have hcpf : z46 = cpF S z37 from_ (to - v7) dfd := cp_t (by assumption) (by assumption : FR md_me_countReadings S T1) rfl
                  refine l_istore rfl rfl rfl ?_
                  refine l_iload rfl rfl ?_
                  refine l_if_le rfl rfl (by unfold rg; omega) (fun w48 => ?_) (fun w49 => ?_)
                  · have w50 : Xi T4 895 12 = Xi T1 895 12 := (show Xi T4 895 12 = Xi T1 895 12 from w47.x _ _ rfl)
                    have w52 : Xi T4 895 13 = Xi T1 895 13 := (show Xi T4 895 13 = Xi T1 895 13 from w47.x _ _ rfl)
                    exact Rl_weak (C119 T4 hHT4 hFT4 (v6) (v7) (by omega) (by omega) (by omega) (by first | exact hcr119 | exact hcr6 | (intro h; omega) | exact cr_t hcr6 (by omega) (by omega) | exact cr_t hcr119 (by omega) (by omega) | (intro _; rw [show Xi T4 895 12 = z37 by omega, show Xi T4 895 13 = to - v7 by omega]; omega)) (by omega) (by omega)) (And.intro rfl (And.intro rfl (And.intro rfl (And.intro rfl (And.intro rfl (And.intro rfl (And.intro rfl (And.intro rfl (True.intro)))))))))
                  · refine l_aload_n rfl rfl ?_
                    refine l_iload rfl rfl ?_
                    refine l_pfi rfl rfl rfl rfl ?_
                    obtain ⟨U5, eU5⟩ : ∃ T : sS, T = uI T4 895 12 (Int32.ofInt z37) := ⟨_, rfl⟩
                    rw [← eU5]
                    have hHU5 : HI U5 := by rw [eU5]; exact HI_w hHT4 (show 0 ≤ z37 by omega) (show z37 ≤ 15 by omega)
                    have hFU5 : FR md_me_countReadings S U5 := by rw [eU5]; exact FR.wI hFT4 (mdf_i (r := (895, 896, 12, 13)) (List.mem_of_getElem? (i := 2) rfl) (inR_i (by omega) (by omega) (by omega) (by omega)))
                    have w53 : Xi U5 895 12 = z37 := by rw [eU5]; exact Xi_same (by unfold rg; omega)
                    refine l_aload_n rfl rfl ?_
                    refine l_iload_n rfl rfl ?_
                    refine l_iload rfl rfl ?_
                    refine l_isub rfl ?_
                    refine l_pfi rfl rfl rfl rfl ?_
                    obtain ⟨U6, eU6⟩ : ∃ T : sS, T = uI U5 895 13 (Int32.ofInt (to - v7)) := ⟨_, rfl⟩
                    rw [← eU6]
                    have hHU6 : HI U6 := by rw [eU6]; exact HI_any hHU5 (rfl)
                    have hFU6 : FR md_me_countReadings S U6 := by rw [eU6]; exact FR.wI hFU5 (mdf_i (r := (895, 896, 13, 14)) (List.mem_of_getElem? (i := 3) rfl) (inR_i (by omega) (by omega) (by omega) (by omega)))
                    have w54 : Xi U6 895 13 = (to - v7) := by rw [eU6]; exact Xi_same (by unfold rg; omega)
                    refine l_iload rfl rfl ?_
                    refine l_iload rfl rfl ?_
                    refine l_iadd rfl ?_
                    refine l_istore rfl rfl rfl ?_
                    have w55 : Xi U6 895 12 = Xi U5 895 12 := (show Xi U6 895 12 = Xi U5 895 12 from by rw [eU6]; exact Xi_ne (by omega))
                    have w56 : 0 ≤ Xi U5 895 12 ∧ Xi U5 895 12 ≤ 15 := hHU5.c _ _
                    exact Rl_weak (C119 U6 hHU6 hFU6 ((v6 + z46)) (v7) (by omega) (by omega) (by omega) (by first | exact hcr119 | exact hcr6 | (intro h; omega) | exact cr_t hcr6 (by omega) (by omega) | exact cr_t hcr119 (by omega) (by omega) | (intro _; rw [show Xi U6 895 12 = z37 by omega, show Xi U6 895 13 = to - v7 by omega]; omega)) (by omega) (by omega)) (And.intro rfl (And.intro rfl (And.intro rfl (And.intro rfl (And.intro rfl (And.intro rfl (And.intro rfl (And.intro rfl (True.intro)))))))))
                · refine l_aload_n rfl rfl ?_
                  refine l_gfr rfl rfl rfl rfl rfl (hHT1.r 895 1 1 rfl) ?_
                  refine l_iload rfl rfl ?_
                  refine l_iload rfl rfl ?_
                  refine l_callV rfl rfl rfl (t_vo_isKind hHT1 z37 least ⟨by omega, by omega⟩ ⟨by omega, by omega⟩ _) ?_
                  rintro _ _ ⟨rfl, z58, rfl, w58, w57⟩
                  show Rl _ _ _ _ _ [iv z58] _ _
                  refine l_if_ne rfl rfl (by unfold rg; omega) (fun w59 => ?_) (fun w60 => ?_)
                  · refine l_aload_n rfl rfl ?_
                    refine l_iload rfl rfl ?_
                    refine l_iload_n rfl rfl ?_
                    refine l_iload_n rfl rfl ?_
                    refine l_iload rfl rfl ?_
                    refine l_isub rfl ?_
                    refine l_iload rfl rfl ?_
                    refine l_callV rfl rfl rfl (t_me_countParts hHT1 z37 from_ (to - v7) dfd ⟨by omega, by omega⟩ ⟨by omega, by omega⟩ ⟨by omega, by omega⟩ ⟨by omega, by omega⟩ (by first | assumption | exact (LEX_FR hFT1 rfl rfl (by assumption : LEX S))) _) ?_
                    rintro _ T7 ⟨hHT7, w64, z63, rfl, w63, w61, w62⟩
                    have hFT7 : FR md_me_countReadings S T7 := FR.tr hFT1 w64 rfl
                    show Rl _ _ _ _ _ [iv z63] _ _
                    have hcpf : z63 = cpF S z37 from_ (to - v7) dfd := cp_t (by assumption) (by assumption : FR md_me_countReadings S T1) rfl
                    refine l_istore rfl rfl rfl ?_
                    refine l_iload rfl rfl ?_
                    refine l_if_le rfl rfl (by unfold rg; omega) (fun w65 => ?_) (fun w66 => ?_)
                    · have w67 : Xi T7 895 12 = Xi T1 895 12 := (show Xi T7 895 12 = Xi T1 895 12 from w64.x _ _ rfl)
                      have w69 : Xi T7 895 13 = Xi T1 895 13 := (show Xi T7 895 13 = Xi T1 895 13 from w64.x _ _ rfl)
                      exact Rl_weak (C119 T7 hHT7 hFT7 (v6) (v7) (by omega) (by omega) (by omega) (by first | exact hcr119 | exact hcr6 | (intro h; omega) | exact cr_t hcr6 (by omega) (by omega) | exact cr_t hcr119 (by omega) (by omega) | (intro _; rw [show Xi T7 895 12 = z37 by omega, show Xi T7 895 13 = to - v7 by omega]; omega)) (by omega) (by omega)) (And.intro rfl (And.intro rfl (And.intro rfl (And.intro rfl (And.intro rfl (And.intro rfl (And.intro rfl (And.intro rfl (True.intro)))))))))
                    · refine l_aload_n rfl rfl ?_
                      refine l_iload rfl rfl ?_
                      refine l_pfi rfl rfl rfl rfl ?_
                      obtain ⟨U8, eU8⟩ : ∃ T : sS, T = uI T7 895 12 (Int32.ofInt z37) := ⟨_, rfl⟩
                      rw [← eU8]
                      have hHU8 : HI U8 := by rw [eU8]; exact HI_w hHT7 (show 0 ≤ z37 by omega) (show z37 ≤ 15 by omega)
                      have hFU8 : FR md_me_countReadings S U8 := by rw [eU8]; exact FR.wI hFT7 (mdf_i (r := (895, 896, 12, 13)) (List.mem_of_getElem? (i := 2) rfl) (inR_i (by omega) (by omega) (by omega) (by omega)))
                      have w70 : Xi U8 895 12 = z37 := by rw [eU8]; exact Xi_same (by unfold rg; omega)
                      refine l_aload_n rfl rfl ?_
                      refine l_iload_n rfl rfl ?_
                      refine l_iload rfl rfl ?_
                      refine l_isub rfl ?_
                      refine l_pfi rfl rfl rfl rfl ?_
                      obtain ⟨U9, eU9⟩ : ∃ T : sS, T = uI U8 895 13 (Int32.ofInt (to - v7)) := ⟨_, rfl⟩
                      rw [← eU9]
                      have hHU9 : HI U9 := by rw [eU9]; exact HI_any hHU8 (rfl)
                      have hFU9 : FR md_me_countReadings S U9 := by rw [eU9]; exact FR.wI hFU8 (mdf_i (r := (895, 896, 13, 14)) (List.mem_of_getElem? (i := 3) rfl) (inR_i (by omega) (by omega) (by omega) (by omega)))
                      have w71 : Xi U9 895 13 = (to - v7) := by rw [eU9]; exact Xi_same (by unfold rg; omega)
                      refine l_iload rfl rfl ?_
                      refine l_iload rfl rfl ?_
                      refine l_iadd rfl ?_
                      refine l_istore rfl rfl rfl ?_
                      have w72 : Xi U9 895 12 = Xi U8 895 12 := (show Xi U9 895 12 = Xi U8 895 12 from by rw [eU9]; exact Xi_ne (by omega))
                      have w73 : 0 ≤ Xi U8 895 12 ∧ Xi U8 895 12 ≤ 15 := hHU8.c _ _
                      exact Rl_weak (C119 U9 hHU9 hFU9 ((v6 + z63)) (v7) (by omega) (by omega) (by omega) (by first | exact hcr119 | exact hcr6 | (intro h; omega) | exact cr_t hcr6 (by omega) (by omega) | exact cr_t hcr119 (by omega) (by omega) | (intro _; rw [show Xi U9 895 12 = z37 by omega, show Xi U9 895 13 = to - v7 by omega]; omega)) (by omega) (by omega)) (And.intro rfl (And.intro rfl (And.intro rfl (And.intro rfl (And.intro rfl (And.intro rfl (And.intro rfl (And.intro rfl (True.intro)))))))))
                  · refine l_goto rfl rfl ?_
                    exact Rl_weak (C119 T1 hHT1 hFT1 (v6) (v7) (by omega) (by omega) (by omega) (by first | exact hcr119 | exact hcr6 | (intro h; omega) | exact cr_t hcr6 (by omega) (by omega) | exact cr_t hcr119 (by omega) (by omega) | (intro _; rw [show Xi T1 895 12 = z37 by omega, show Xi T1 895 13 = to - v7 by omega]; omega)) (by omega) (by omega)) (And.intro rfl (And.intro rfl (And.intro rfl (And.intro rfl (And.intro rfl (And.intro rfl (And.intro rfl (And.intro rfl (True.intro)))))))))
            · refine l_bipush rfl rfl ?_
              refine l_goto rfl rfl ?_
              refine l_iload_n rfl rfl ?_
              refine l_iload rfl rfl ?_
              refine l_isub rfl ?_
              refine l_iload_n rfl rfl ?_
              refine l_callV rfl rfl rfl (t_me_find hHT1 11 (to - v7) to ⟨by omega, by omega⟩ ⟨by omega, by omega⟩ ⟨by omega, by omega⟩ (by first | assumption | exact (LEX_FR hFT1 rfl rfl (by assumption : LEX S))) _) ?_
              rintro _ _ ⟨rfl, z78, rfl, w78, w75, w76, w77⟩
              have w79 : z78 ≠ -1 → _ := fun h => fb11 hHT1 (w75 h)
              show Rl _ _ _ _ _ [iv z78] _ _
              refine l_istore rfl rfl rfl ?_
              refine l_iload rfl rfl ?_
              refine l_iconst rfl ?_
              refine l_icmp_eq rfl rfl (by unfold rg; omega) (by unfold rg; omega) (fun w80 => ?_) (fun w81 => ?_)
              · have w82 : 0 ≤ Xi T1 895 12 ∧ Xi T1 895 12 ≤ 15 := hHT1.c _ _
                exact Rl_weak (C119 T1 hHT1 hFT1 (v6) (v7) (by omega) (by omega) (by omega) (by first | exact hcr119 | exact hcr6 | (intro h; omega) | exact cr_t hcr6 (by omega) (by omega) | exact cr_t hcr119 (by omega) (by omega) | (intro _; rw [show Xi T1 895 12 = z78 by omega, show Xi T1 895 13 = to - v7 by omega]; omega)) (by omega) (by omega)) (And.intro rfl (And.intro rfl (And.intro rfl (And.intro rfl (And.intro rfl (And.intro rfl (And.intro rfl (And.intro rfl (True.intro)))))))))
              · refine l_iload rfl rfl ?_
                refine l_iconst rfl ?_
                refine l_icmp_eq rfl rfl (by unfold rg; omega) (by unfold rg; omega) (fun w83 => ?_) (fun w84 => ?_)
                · refine l_aload_n rfl rfl ?_
                  refine l_iload rfl rfl ?_
                  refine l_iload_n rfl rfl ?_
                  refine l_iload_n rfl rfl ?_
                  refine l_iload rfl rfl ?_
                  refine l_isub rfl ?_
                  refine l_iload rfl rfl ?_
                  refine l_callV rfl rfl rfl (t_me_countParts hHT1 z78 from_ (to - v7) dfd ⟨by omega, by omega⟩ ⟨by omega, by omega⟩ ⟨by omega, by omega⟩ ⟨by omega, by omega⟩ (by first | assumption | exact (LEX_FR hFT1 rfl rfl (by assumption : LEX S))) _) ?_
                  rintro _ T10 ⟨hHT10, w88, z87, rfl, w87, w85, w86⟩
                  have hFT10 : FR md_me_countReadings S T10 := FR.tr hFT1 w88 rfl
                  show Rl _ _ _ _ _ [iv z87] _ _
                  have hcpf : z87 = cpF S z78 from_ (to - v7) dfd := cp_t (by assumption) (by assumption : FR md_me_countReadings S T1) rfl
                  refine l_istore rfl rfl rfl ?_
                  refine l_iload rfl rfl ?_
                  refine l_if_le rfl rfl (by unfold rg; omega) (fun w89 => ?_) (fun w90 => ?_)
                  · have w91 : Xi T10 895 12 = Xi T1 895 12 := (show Xi T10 895 12 = Xi T1 895 12 from w88.x _ _ rfl)
                    have w93 : Xi T10 895 13 = Xi T1 895 13 := (show Xi T10 895 13 = Xi T1 895 13 from w88.x _ _ rfl)
                    exact Rl_weak (C119 T10 hHT10 hFT10 (v6) (v7) (by omega) (by omega) (by omega) (by first | exact hcr119 | exact hcr6 | (intro h; omega) | exact cr_t hcr6 (by omega) (by omega) | exact cr_t hcr119 (by omega) (by omega) | (intro _; rw [show Xi T10 895 12 = z78 by omega, show Xi T10 895 13 = to - v7 by omega]; omega)) (by omega) (by omega)) (And.intro rfl (And.intro rfl (And.intro rfl (And.intro rfl (And.intro rfl (And.intro rfl (And.intro rfl (And.intro rfl (True.intro)))))))))
                  · refine l_aload_n rfl rfl ?_
                    refine l_iload rfl rfl ?_
                    refine l_pfi rfl rfl rfl rfl ?_
                    obtain ⟨U11, eU11⟩ : ∃ T : sS, T = uI T10 895 12 (Int32.ofInt z78) := ⟨_, rfl⟩
                    rw [← eU11]
                    have hHU11 : HI U11 := by rw [eU11]; exact HI_w hHT10 (show 0 ≤ z78 by omega) (show z78 ≤ 15 by omega)
                    have hFU11 : FR md_me_countReadings S U11 := by rw [eU11]; exact FR.wI hFT10 (mdf_i (r := (895, 896, 12, 13)) (List.mem_of_getElem? (i := 2) rfl) (inR_i (by omega) (by omega) (by omega) (by omega)))
                    have w94 : Xi U11 895 12 = z78 := by rw [eU11]; exact Xi_same (by unfold rg; omega)
                    refine l_aload_n rfl rfl ?_
                    refine l_iload_n rfl rfl ?_
                    refine l_iload rfl rfl ?_
                    refine l_isub rfl ?_
                    refine l_pfi rfl rfl rfl rfl ?_
                    obtain ⟨U12, eU12⟩ : ∃ T : sS, T = uI U11 895 13 (Int32.ofInt (to - v7)) := ⟨_, rfl⟩
                    rw [← eU12]
                    have hHU12 : HI U12 := by rw [eU12]; exact HI_any hHU11 (rfl)
                    have hFU12 : FR md_me_countReadings S U12 := by rw [eU12]; exact FR.wI hFU11 (mdf_i (r := (895, 896, 13, 14)) (List.mem_of_getElem? (i := 3) rfl) (inR_i (by omega) (by omega) (by omega) (by omega)))
                    have w95 : Xi U12 895 13 = (to - v7) := by rw [eU12]; exact Xi_same (by unfold rg; omega)
                    refine l_iload rfl rfl ?_
                    refine l_iload rfl rfl ?_
                    refine l_iadd rfl ?_
                    refine l_istore rfl rfl rfl ?_
                    have w96 : Xi U12 895 12 = Xi U11 895 12 := (show Xi U12 895 12 = Xi U11 895 12 from by rw [eU12]; exact Xi_ne (by omega))
                    have w97 : 0 ≤ Xi U11 895 12 ∧ Xi U11 895 12 ≤ 15 := hHU11.c _ _
                    exact Rl_weak (C119 U12 hHU12 hFU12 ((v6 + z87)) (v7) (by omega) (by omega) (by omega) (by first | exact hcr119 | exact hcr6 | (intro h; omega) | exact cr_t hcr6 (by omega) (by omega) | exact cr_t hcr119 (by omega) (by omega) | (intro _; rw [show Xi U12 895 12 = z78 by omega, show Xi U12 895 13 = to - v7 by omega]; omega)) (by omega) (by omega)) (And.intro rfl (And.intro rfl (And.intro rfl (And.intro rfl (And.intro rfl (And.intro rfl (And.intro rfl (And.intro rfl (True.intro)))))))))
                · refine l_aload_n rfl rfl ?_
                  refine l_gfr rfl rfl rfl rfl rfl (hHT1.r 895 1 1 rfl) ?_
                  refine l_iload rfl rfl ?_
                  refine l_iload rfl rfl ?_
                  refine l_callV rfl rfl rfl (t_vo_isKind hHT1 z78 least ⟨by omega, by omega⟩ ⟨by omega, by omega⟩ _) ?_
                  rintro _ _ ⟨rfl, z99, rfl, w99, w98⟩
                  show Rl _ _ _ _ _ [iv z99] _ _
                  refine l_if_ne rfl rfl (by unfold rg; omega) (fun w100 => ?_) (fun w101 => ?_)
                  · refine l_aload_n rfl rfl ?_
                    refine l_iload rfl rfl ?_
                    refine l_iload_n rfl rfl ?_
                    refine l_iload_n rfl rfl ?_
                    refine l_iload rfl rfl ?_
                    refine l_isub rfl ?_
                    refine l_iload rfl rfl ?_
                    refine l_callV rfl rfl rfl (t_me_countParts hHT1 z78 from_ (to - v7) dfd ⟨by omega, by omega⟩ ⟨by omega, by omega⟩ ⟨by omega, by omega⟩ ⟨by omega, by omega⟩ (by first | assumption | exact (LEX_FR hFT1 rfl rfl (by assumption : LEX S))) _) ?_
                    rintro _ T13 ⟨hHT13, w105, z104, rfl, w104, w102, w103⟩
                    have hFT13 : FR md_me_countReadings S T13 := FR.tr hFT1 w105 rfl
                    show Rl _ _ _ _ _ [iv z104] _ _
                    have hcpf : z104 = cpF S z78 from_ (to - v7) dfd := cp_t (by assumption) (by assumption : FR md_me_countReadings S T1) rfl
                    refine l_istore rfl rfl rfl ?_
                    refine l_iload rfl rfl ?_
                    refine l_if_le rfl rfl (by unfold rg; omega) (fun w106 => ?_) (fun w107 => ?_)
                    · have w108 : Xi T13 895 12 = Xi T1 895 12 := (show Xi T13 895 12 = Xi T1 895 12 from w105.x _ _ rfl)
                      have w110 : Xi T13 895 13 = Xi T1 895 13 := (show Xi T13 895 13 = Xi T1 895 13 from w105.x _ _ rfl)
                      exact Rl_weak (C119 T13 hHT13 hFT13 (v6) (v7) (by omega) (by omega) (by omega) (by first | exact hcr119 | exact hcr6 | (intro h; omega) | exact cr_t hcr6 (by omega) (by omega) | exact cr_t hcr119 (by omega) (by omega) | (intro _; rw [show Xi T13 895 12 = z78 by omega, show Xi T13 895 13 = to - v7 by omega]; omega)) (by omega) (by omega)) (And.intro rfl (And.intro rfl (And.intro rfl (And.intro rfl (And.intro rfl (And.intro rfl (And.intro rfl (And.intro rfl (True.intro)))))))))
                    · refine l_aload_n rfl rfl ?_
                      refine l_iload rfl rfl ?_
                      refine l_pfi rfl rfl rfl rfl ?_
                      obtain ⟨U14, eU14⟩ : ∃ T : sS, T = uI T13 895 12 (Int32.ofInt z78) := ⟨_, rfl⟩
                      rw [← eU14]
                      have hHU14 : HI U14 := by rw [eU14]; exact HI_w hHT13 (show 0 ≤ z78 by omega) (show z78 ≤ 15 by omega)
                      have hFU14 : FR md_me_countReadings S U14 := by rw [eU14]; exact FR.wI hFT13 (mdf_i (r := (895, 896, 12, 13)) (List.mem_of_getElem? (i := 2) rfl) (inR_i (by omega) (by omega) (by omega) (by omega)))
                      have w111 : Xi U14 895 12 = z78 := by rw [eU14]; exact Xi_same (by unfold rg; omega)
                      refine l_aload_n rfl rfl ?_
                      refine l_iload_n rfl rfl ?_
                      refine l_iload rfl rfl ?_
                      refine l_isub rfl ?_
                      refine l_pfi rfl rfl rfl rfl ?_
                      obtain ⟨U15, eU15⟩ : ∃ T : sS, T = uI U14 895 13 (Int32.ofInt (to - v7)) := ⟨_, rfl⟩
                      rw [← eU15]
                      have hHU15 : HI U15 := by rw [eU15]; exact HI_any hHU14 (rfl)
                      have hFU15 : FR md_me_countReadings S U15 := by rw [eU15]; exact FR.wI hFU14 (mdf_i (r := (895, 896, 13, 14)) (List.mem_of_getElem? (i := 3) rfl) (inR_i (by omega) (by omega) (by omega) (by omega)))
                      have w112 : Xi U15 895 13 = (to - v7) := by rw [eU15]; exact Xi_same (by unfold rg; omega)
                      refine l_iload rfl rfl ?_
                      refine l_iload rfl rfl ?_
                      refine l_iadd rfl ?_
                      refine l_istore rfl rfl rfl ?_
                      have w113 : Xi U15 895 12 = Xi U14 895 12 := (show Xi U15 895 12 = Xi U14 895 12 from by rw [eU15]; exact Xi_ne (by omega))
                      have w114 : 0 ≤ Xi U14 895 12 ∧ Xi U14 895 12 ≤ 15 := hHU14.c _ _
                      exact Rl_weak (C119 U15 hHU15 hFU15 ((v6 + z104)) (v7) (by omega) (by omega) (by omega) (by first | exact hcr119 | exact hcr6 | (intro h; omega) | exact cr_t hcr6 (by omega) (by omega) | exact cr_t hcr119 (by omega) (by omega) | (intro _; rw [show Xi U15 895 12 = z78 by omega, show Xi U15 895 13 = to - v7 by omega]; omega)) (by omega) (by omega)) (And.intro rfl (And.intro rfl (And.intro rfl (And.intro rfl (And.intro rfl (And.intro rfl (And.intro rfl (And.intro rfl (True.intro)))))))))
                  · refine l_goto rfl rfl ?_
                    exact Rl_weak (C119 T1 hHT1 hFT1 (v6) (v7) (by omega) (by omega) (by omega) (by first | exact hcr119 | exact hcr6 | (intro h; omega) | exact cr_t hcr6 (by omega) (by omega) | exact cr_t hcr119 (by omega) (by omega) | (intro _; rw [show Xi T1 895 12 = z78 by omega, show Xi T1 895 13 = to - v7 by omega]; omega)) (by omega) (by omega)) (And.intro rfl (And.intro rfl (And.intro rfl (And.intro rfl (And.intro rfl (And.intro rfl (And.intro rfl (And.intro rfl (True.intro)))))))))
  refine l_iconst rfl ?_
  refine l_istore rfl rfl rfl ?_
  refine l_iconst rfl ?_
  refine l_istore rfl rfl rfl ?_
  exact Rl_weak (C6 _ S hH hF (0) (1) (by omega) (by omega) (by omega) (by first | exact hcr119 | exact hcr6 | (intro h; omega) | exact cr_t hcr6 (by omega) (by omega) | exact cr_t hcr119 (by omega) (by omega) | (intro _; rw [show Xi S 895 12 = $L8 by omega, show Xi S 895 13 = to - v7 by omega]; omega)) (by omega) rfl) (And.intro rfl (And.intro rfl (And.intro rfl (And.intro rfl (And.intro rfl (And.intro rfl (And.intro rfl (And.intro rfl (True.intro)))))))))
def md_me_keepReading : List rec := [(895, 896, 8, 9), (895, 896, 9, 10), (895, 896, 14, 15), (896, 897, 0, 100000), (897, 898, 0, 100000), (898, 899, 0, 100000)]
abbrev Q_me_keepReading (S : sS) (from_ : Int) (dfd : Int) : pst := fun r S1 => HI S1 ∧ FR md_me_keepReading S S1 ∧ (r = none ∧ (MAD S1))
set_option maxRecDepth 100000 in
theorem t_me_keepReading {S : sS} (hH : HI S) (from_ : Int) (dfd : Int) (hfrom_ : 0 ≤ from_ ∧ from_ ≤ 5140) (hdfd : 0 ≤ dfd ∧ dfd ≤ 1) (hL : LEX S) (hd : from_ ≤ Xi S 895 13 ∧ Xi S 895 13 - from_ ≤ 5) (hp : 0 < cpF S (Xi S 895 12) from_ (Xi S 895 13) dfd) (d : Nat) : Mt lay0 (d + 4) m_me_keepReading [.ref 895, iv from_, iv dfd] S (Q_me_keepReading S from_ dfd) := by
  refine Mt_R rfl rfl ?_
  have hF : FR md_me_keepReading S S := FR.rf
  have w1 : 0 ≤ Xi S 895 12 ∧ Xi S 895 12 ≤ 15 := hH.c _ _
  have w2 : -2147483648 ≤ Xi S 895 13 ∧ Xi S 895 13 ≤ 2147483647 := Xi_rgI
  have w3 : 0 ≤ Xi S 895 14 ∧ Xi S 895 14 ≤ 5 := hH.c _ _
  have C30 : ∀ (n30 : Nat) (T1 : sS) (_ : HI T1) (_ : FR md_me_keepReading S T1) (v3 : Int) (v4 : Int), (0 ≤ v3 ∧ v3 ≤ 5) → (0 ≤ v4 ∧ v4 ≤ 5) → (v3 = Xi S 895 13 - from_) → (PRT T1 (fA S (Xi S 895 12) from_ dfd) v3 (-1)) → (MAD T1) → (v4 ≤ v3) → (0 < cpf (fA S (Xi S 895 12) from_ dfd) v3 (v3 - v4).toNat) → n30 = (6 - v4).toNat → Rl lay0 (d + 3) m_me_keepReading 30 [(0, .ref 895), (1, iv from_), (2, iv dfd), (3, iv v3), (4, iv v4)] [] T1 (Q_me_keepReading S from_ dfd) := by
    intro n30
    induction n30 using Nat.strongRecOn with
    | ind n30 ih30 =>
      intro T1 hHT1 hFT1 v3 v4 w4 w5 h3_30 hP30 hM30 w6 hc30 hm30
      have w7 : Xi T1 5 3 = Xi S 5 3 := hFT1.x _ _ rfl
      have w8 : Xi T1 895 12 = Xi S 895 12 := hFT1.x _ _ rfl
      have w9 : Xi T1 895 13 = Xi S 895 13 := hFT1.x _ _ rfl
      have C47 : ∀ (n47 : Nat) (T2 : sS) (_ : HI T2) (_ : FR md_me_keepReading S T2) (v3 : Int) (v4 : Int) (v5 : Int), (1 ≤ v3 ∧ v3 ≤ 5) → (0 ≤ v4 ∧ v4 ≤ 4) → (1 ≤ v5 ∧ v5 ≤ 3) → (v3 = Xi S 895 13 - from_) → (PRT T2 (fA S (Xi S 895 12) from_ dfd) v3 (-1)) → (MAD T2) → (v4 < v3) → (Xi T2 895 14 < 5) → (v4 + v5 ≤ v3) → (0 < cpf (fA S (Xi S 895 12) from_ dfd) v3 (v3 - v4).toNat) → (∀ i : Int, 1 ≤ i → i < v5 → cpf (fA S (Xi S 895 12) from_ dfd) v3 (v3 - (v4 + i)).toNat = 0 ∨ (fA S (Xi S 895 12) from_ dfd) v4 (v4 + i) = 0) → ((6 - v4).toNat ≤ n30) → n47 = (4 - v5).toNat → Rl lay0 (d + 3) m_me_keepReading 47 [(0, .ref 895), (1, iv from_), (2, iv dfd), (3, iv v3), (4, iv v4), (5, iv v5)] [] T2 (Q_me_keepReading S from_ dfd) := by
        intro n47
        induction n47 using Nat.strongRecOn with
        | ind n47 ih47 =>
          intro T2 hHT2 hFT2 v3 v4 v5 w10 w11 w12 h3_47 hP47 hM47 w13 w14 w15 hc47 hn47 w16 hm47
          have w17 : Xi T2 5 3 = Xi S 5 3 := hFT2.x _ _ rfl
          have w18 : Xi T2 895 12 = Xi S 895 12 := hFT2.x _ _ rfl
          have w19 : Xi T2 895 13 = Xi S 895 13 := hFT2.x _ _ rfl
          have w20 : 0 ≤ Xi T2 895 14 ∧ Xi T2 895 14 ≤ 5 := hHT2.c _ _
          have C105 : ∀  (T3 : sS) (_ : HI T3) (_ : FR md_me_keepReading S T3) (v3 : Int) (v4 : Int) (v5 : Int), (1 ≤ v3 ∧ v3 ≤ 5) → (0 ≤ v4 ∧ v4 ≤ 4) → (1 ≤ v5 ∧ v5 ≤ 3) → (v3 = Xi S 895 13 - from_) → (PRT T3 (fA S (Xi S 895 12) from_ dfd) v3 (-1)) → (MAD T3) → (v4 < v3) → (Xi T3 895 14 < 5) → (v4 + v5 ≤ v3) → (0 < cpf (fA S (Xi S 895 12) from_ dfd) v3 (v3 - (v4 + v5)).toNat ∧ 0 < (fA S (Xi S 895 12) from_ dfd) v4 (v4 + v5)) → ((6 - v4).toNat ≤ n30) → Rl lay0 (d + 3) m_me_keepReading 105 [(0, .ref 895), (1, iv from_), (2, iv dfd), (3, iv v3), (4, iv v4), (5, iv v5)] [] T3 (Q_me_keepReading S from_ dfd) := by
            intro T3 hHT3 hFT3 v3 v4 v5 w21 w22 w23 h3_105 hP105 hM105 w24 w25 w26 hx105 w27
            have w28 : Xi T3 5 3 = Xi S 5 3 := hFT3.x _ _ rfl
            have w29 : Xi T3 895 12 = Xi S 895 12 := hFT3.x _ _ rfl
            have w30 : Xi T3 895 13 = Xi S 895 13 := hFT3.x _ _ rfl
            have w31 : 0 ≤ Xi T3 895 14 ∧ Xi T3 895 14 ≤ 5 := hHT3.c _ _
            refine l_aload_n rfl rfl ?_
            refine l_aload_n rfl rfl ?_
            refine l_gfi rfl rfl rfl rfl rfl ?_
            refine l_iload_n rfl rfl ?_
            refine l_iload rfl rfl ?_
            refine l_iadd rfl ?_
            refine l_iload_n rfl rfl ?_
            refine l_iload rfl rfl ?_
            refine l_iadd rfl ?_
            refine l_iload rfl rfl ?_
            refine l_iadd rfl ?_
            refine l_iconst rfl ?_
            refine l_iload_n rfl rfl ?_
            have w32 : 0 ≤ Xi T3 5 3 ∧ Xi T3 5 3 ≤ 24 := hHT3.c _ _
            refine l_callV rfl rfl rfl (t_me_readAdjective hHT3 (Xi T3 895 12) (from_ + v4) ((from_ + v4) + v5) 1 dfd ⟨by omega, by omega⟩ ⟨by omega, by omega⟩ ⟨by omega, by omega⟩ ⟨by omega, by omega⟩ ⟨by omega, by omega⟩ (by first | assumption | exact (LEX_FR hFT3 rfl rfl (by assumption : LEX S))) _) ?_
            rintro _ T4 ⟨hHT4, w36, z35, rfl, w35, w33, w34⟩
            have hFT4 : FR md_me_keepReading S T4 := FR.tr hFT3 w36 rfl
            show Rl _ _ _ _ _ [iv z35] _ _
            have hra : z35 = fA S (Xi S 895 12) from_ dfd v4 (v4 + v5) := ra_f2 (by assumption) (by assumption : FR md_me_keepReading S T3) rfl (by omega)
            have hP5 : PRT T4 (fA S (Xi S 895 12) from_ dfd) v3 (-1) := PRT_FR (by assumption : FR md_me_readAdjective T3 T4) rfl hP105
            have hM5 : MAD T4 := MAD_FR (by assumption : FR md_me_readAdjective T3 T4) rfl hM105
            have h53 : Xi T4 5 3 = Xi T3 5 3 := ((by assumption : FR md_me_readAdjective T3 T4).cx 5 rfl _).1
            have hx1 := hx105.2
            refine l_pop rfl rfl ?_
            refine l_aload_n rfl rfl ?_
            refine l_gfr rfl rfl rfl rfl rfl (hHT4.r 895 15 896 rfl) ?_
            refine l_aload_n rfl rfl ?_
            refine l_gfi rfl rfl rfl rfl rfl ?_
            have w37 : (Xi T4 895 14) = (Xi T3 895 14) := (show Xi T4 895 14 = Xi T3 895 14 from w36.x _ _ rfl)
            rw [w37]
            refine l_aload_n rfl rfl ?_
            refine l_gfi rfl rfl rfl rfl rfl ?_
            have w38 : 0 ≤ (Xi T4 895 8) ∧ (Xi T4 895 8) ≤ 255 := hHT4.c _ _
            refine l_iastore (n := 5) rfl rfl (by omega) (by omega) (by unfold rg; omega) ?_
            obtain ⟨U5, eU5⟩ : ∃ T : sS, T = uI T4 896 (((Xi T3 895 14)).toNat) (Int32.ofInt (Xi T4 895 8)) := ⟨_, rfl⟩
            rw [← eU5]
            have hHU5 : HI U5 := by rw [eU5]; exact HI_w hHT4 (show 0 ≤ (Xi T4 895 8) by omega) (show (Xi T4 895 8) ≤ 63 by omega)
            have hFU5 : FR md_me_keepReading S U5 := by rw [eU5]; exact FR.wI hFT4 (mdf_i (r := (896, 897, 0, 100000)) (List.mem_of_getElem? (i := 3) rfl) (inR_i (by omega) (by omega) (by omega) (by omega)))
            have w39 : Xi U5 896 (((Xi T3 895 14)).toNat) = (Xi T4 895 8) := by rw [eU5]; exact Xi_same (by unfold rg; omega)
            have h959 : Xi U5 895 9 = Xi T4 895 9 := by rw [eU5]; exact Xi_ne (by omega)
            refine l_aload_n rfl rfl ?_
            refine l_gfr rfl rfl rfl rfl rfl (hHU5.r 895 16 897 rfl) ?_
            refine l_aload_n rfl rfl ?_
            refine l_gfi rfl rfl rfl rfl rfl ?_
            have w40 : (Xi U5 895 14) = (Xi T3 895 14) := (show Xi U5 895 14 = Xi T4 895 14 from by rw [eU5]; exact Xi_ne (by omega)).trans ((show Xi T4 895 14 = Xi T3 895 14 from w36.x _ _ rfl))
            rw [w40]
            refine l_aload_n rfl rfl ?_
            refine l_gfi rfl rfl rfl rfl rfl ?_
            have w41 : -1 ≤ (Xi U5 895 9) ∧ (Xi U5 895 9) ≤ 11 := hHU5.c _ _
            refine l_iastore (n := 5) rfl rfl (by omega) (by omega) (by unfold rg; omega) ?_
            obtain ⟨U6, eU6⟩ : ∃ T : sS, T = uI U5 897 (((Xi T3 895 14)).toNat) (Int32.ofInt (Xi U5 895 9)) := ⟨_, rfl⟩
            rw [← eU6]
            have hHU6 : HI U6 := by rw [eU6]; exact HI_w hHU5 (show -1 ≤ (Xi U5 895 9) by omega) (show (Xi U5 895 9) ≤ 11 by omega)
            have hFU6 : FR md_me_keepReading S U6 := by rw [eU6]; exact FR.wI hFU5 (mdf_i (r := (897, 898, 0, 100000)) (List.mem_of_getElem? (i := 4) rfl) (inR_i (by omega) (by omega) (by omega) (by omega)))
            have w42 : Xi U6 897 (((Xi T3 895 14)).toNat) = (Xi U5 895 9) := by rw [eU6]; exact Xi_same (by unfold rg; omega)
            refine l_aload_n rfl rfl ?_
            refine l_dup rfl rfl ?_
            refine l_gfi rfl rfl rfl rfl rfl ?_
            have w43 : (Xi U6 895 14) = (Xi T3 895 14) := (show Xi U6 895 14 = Xi U5 895 14 from by rw [eU6]; exact Xi_ne (by omega)).trans ( (show Xi U5 895 14 = Xi T4 895 14 from by rw [eU5]; exact Xi_ne (by omega)).trans ((show Xi T4 895 14 = Xi T3 895 14 from w36.x _ _ rfl)))
            rw [w43]
            refine l_iconst rfl ?_
            refine l_iadd rfl ?_
            refine l_pfi rfl rfl rfl rfl ?_
            obtain ⟨U7, eU7⟩ : ∃ T : sS, T = uI U6 895 14 (Int32.ofInt ((Xi T3 895 14) + 1)) := ⟨_, rfl⟩
            rw [← eU7]
            have hHU7 : HI U7 := by rw [eU7]; exact HI_w hHU6 (show 0 ≤ ((Xi T3 895 14) + 1) by omega) (show ((Xi T3 895 14) + 1) ≤ 5 by omega)
            have hFU7 : FR md_me_keepReading S U7 := by rw [eU7]; exact FR.wI hFU6 (mdf_i (r := (895, 896, 14, 15)) (List.mem_of_getElem? (i := 2) rfl) (inR_i (by omega) (by omega) (by omega) (by omega)))
            have w44 : Xi U7 895 14 = ((Xi T3 895 14) + 1) := by rw [eU7]; exact Xi_same (by unfold rg; omega)
            have hM6 : MAD U7 := MAD_put hM5 (by omega) (by omega) eU5 eU6 eU7 (by omega) Xi_rg Xi_rg (by unfold rg; omega) (by omega)
            have hP6 : PRT U7 (fA S (Xi S 895 12) from_ dfd) v3 (-1) := PRT_FR (FR_e eU7) rfl (PRT_FR (FR_e eU6) rfl (PRT_FR (FR_e eU5) rfl hP5))
            refine l_iload rfl rfl ?_
            refine l_iload rfl rfl ?_
            refine l_iadd rfl ?_
            refine l_istore rfl rfl rfl ?_
            refine l_goto rfl rfl ?_
            exact Rl_weak (ih30 _ (by omega) U7 hHU7 hFU7 (v3) ((v4 + v5)) (by omega) (by omega) (by omega) (by first | exact hP0 | exact hP6) (by first | exact hM0 | exact hM6) (by omega) (by first | exact hx105.1 | (rw [show Xi S 895 13 - from_ - 0 = Xi S 895 13 - from_ by omega]; exact hpos0)) rfl) (And.intro rfl (And.intro rfl (And.intro rfl (And.intro rfl (And.intro rfl (True.intro))))))
          refine l_iload rfl rfl ?_
          refine l_iconst rfl ?_
          refine l_icmp_ge rfl rfl (by unfold rg; omega) (by unfold rg; omega) (fun w45 => ?_) (fun w46 => ?_)
          · have w47 : 0 ≤ Xi T2 895 14 ∧ Xi T2 895 14 ≤ 5 := hHT2.c _ _
            exact Rl_weak (C105 T2 hHT2 hFT2 (v3) (v4) (v5) (by omega) (by omega) (by omega) (by omega) (by first | exact hP93 | exact hP47) (by first | exact hM93 | exact hM47) (by omega) (by omega) (by omega) (by first | exact ⟨by omega, by omega⟩ | exact kr_x fA_b (by omega) (by omega) (by omega) hc47 hn47 (by omega) (by omega) (by omega) (by omega)) (by omega)) (And.intro rfl (And.intro rfl (And.intro rfl (And.intro rfl (And.intro rfl (And.intro rfl (True.intro)))))))
          · refine l_iload rfl rfl ?_
            refine l_iload rfl rfl ?_
            refine l_iadd rfl ?_
            refine l_iload_n rfl rfl ?_
            refine l_icmp_ge rfl rfl (by unfold rg; omega) (by unfold rg; omega) (fun w48 => ?_) (fun w49 => ?_)
            · have w50 : 0 ≤ Xi T2 895 14 ∧ Xi T2 895 14 ≤ 5 := hHT2.c _ _
              exact Rl_weak (C105 T2 hHT2 hFT2 (v3) (v4) (v5) (by omega) (by omega) (by omega) (by omega) (by first | exact hP93 | exact hP47) (by first | exact hM93 | exact hM47) (by omega) (by omega) (by omega) (by first | exact ⟨by omega, by omega⟩ | exact kr_x fA_b (by omega) (by omega) (by omega) hc47 hn47 (by omega) (by omega) (by omega) (by omega)) (by omega)) (And.intro rfl (And.intro rfl (And.intro rfl (And.intro rfl (And.intro rfl (And.intro rfl (True.intro)))))))
            · refine l_aload_n rfl rfl ?_
              refine l_gfr rfl rfl rfl rfl rfl (hHT2.r 895 17 898 rfl) ?_
              refine l_iload rfl rfl ?_
              refine l_iload rfl rfl ?_
              refine l_iadd rfl ?_
              refine l_iaload (n := 7) rfl rfl (by omega) (by omega) (by unfold rg; omega) ?_
              have w51 : -2147483648 ≤ (Xi T2 898 (((v4 + v5)).toNat)) ∧ (Xi T2 898 (((v4 + v5)).toNat)) ≤ 2147483647 := Xi_rgI
              have hpn : (Xi T2 898 (((v4 + v5)).toNat)) = cpf (fA S (Xi S 895 12) from_ dfd) v3 (v3 - (v4 + v5)).toNat := hP47 (v4 + v5) (by omega) (by omega)
              have hpb := cpf_bb (f := fA S (Xi S 895 12) from_ dfd) (z := v3) (m := (v3 - (v4 + v5)).toNat) fA_b (by omega)
              refine l_if_eq rfl rfl (by unfold rg; omega) (fun w52 => ?_) (fun w53 => ?_)
              · refine l_iinc rfl rfl rfl rfl ?_
                refine l_goto rfl rfl ?_
                exact Rl_weak (ih47 _ (by omega) T2 hHT2 hFT2 (v3) (v4) ((v5 + 1)) (by omega) (by omega) (by omega) (by omega) (by first | exact hP93 | exact hP47 | exact hP30) (by first | exact hM93 | exact hM47 | exact hM30) (by omega) (by omega) (by omega) (by first | exact hc47 | exact hc30) (by first | (intro i a b; omega) | exact kr_n hn47 (Or.inl (by omega)) | exact kr_n hn47 (Or.inr (by omega))) (by omega) rfl) (And.intro rfl (And.intro rfl (And.intro rfl (And.intro rfl (And.intro rfl (And.intro rfl (True.intro)))))))
              · refine l_aload_n rfl rfl ?_
                refine l_aload_n rfl rfl ?_
                refine l_gfi rfl rfl rfl rfl rfl ?_
                refine l_iload_n rfl rfl ?_
                refine l_iload rfl rfl ?_
                refine l_iadd rfl ?_
                refine l_iload_n rfl rfl ?_
                refine l_iload rfl rfl ?_
                refine l_iadd rfl ?_
                refine l_iload rfl rfl ?_
                refine l_iadd rfl ?_
                refine l_iconst rfl ?_
                refine l_iload_n rfl rfl ?_
                have w55 : 0 ≤ Xi T2 5 3 ∧ Xi T2 5 3 ≤ 24 := hHT2.c _ _
                refine l_callV rfl rfl rfl (t_me_readAdjective hHT2 (Xi T2 895 12) (from_ + v4) ((from_ + v4) + v5) 1 dfd ⟨by omega, by omega⟩ ⟨by omega, by omega⟩ ⟨by omega, by omega⟩ ⟨by omega, by omega⟩ ⟨by omega, by omega⟩ (by first | assumption | exact (LEX_FR hFT2 rfl rfl (by assumption : LEX S))) _) ?_
                rintro _ T8 ⟨hHT8, w59, z58, rfl, w58, w56, w57⟩
                have hFT8 : FR md_me_keepReading S T8 := FR.tr hFT2 w59 rfl
                show Rl _ _ _ _ _ [iv z58] _ _
                have hra : z58 = fA S (Xi S 895 12) from_ dfd v4 (v4 + v5) := ra_f2 (by assumption) (by assumption : FR md_me_keepReading S T2) rfl (by omega)
                have hP93 : PRT T8 (fA S (Xi S 895 12) from_ dfd) v3 (-1) := PRT_FR (by assumption : FR md_me_readAdjective T2 T8) rfl hP47
                have hM93 : MAD T8 := MAD_FR (by assumption : FR md_me_readAdjective T2 T8) rfl hM47
                refine l_if_ne rfl rfl (by unfold rg; omega) (fun w60 => ?_) (fun w61 => ?_)
                · have w62 : Xi T8 895 14 = Xi T2 895 14 := (show Xi T8 895 14 = Xi T2 895 14 from w59.x _ _ rfl)
                  exact Rl_weak (C105 T8 hHT8 hFT8 (v3) (v4) (v5) (by omega) (by omega) (by omega) (by omega) (by first | exact hP93 | exact hP47) (by first | exact hM93 | exact hM47) (by omega) (by omega) (by omega) (by first | exact ⟨by omega, by omega⟩ | exact kr_x fA_b (by omega) (by omega) (by omega) hc47 hn47 (by omega) (by omega) (by omega) (by omega)) (by omega)) (And.intro rfl (And.intro rfl (And.intro rfl (And.intro rfl (And.intro rfl (And.intro rfl (True.intro)))))))
                · refine l_iinc rfl rfl rfl rfl ?_
                  refine l_goto rfl rfl ?_
                  have w64 : Xi T8 895 14 = Xi T2 895 14 := (show Xi T8 895 14 = Xi T2 895 14 from w59.x _ _ rfl)
                  exact Rl_weak (ih47 _ (by omega) T8 hHT8 hFT8 (v3) (v4) ((v5 + 1)) (by omega) (by omega) (by omega) (by omega) (by first | exact hP93 | exact hP47 | exact hP30) (by first | exact hM93 | exact hM47 | exact hM30) (by omega) (by omega) (by omega) (by first | exact hc47 | exact hc30) (by first | (intro i a b; omega) | exact kr_n hn47 (Or.inl (by omega)) | exact kr_n hn47 (Or.inr (by omega))) (by omega) rfl) (And.intro rfl (And.intro rfl (And.intro rfl (And.intro rfl (And.intro rfl (And.intro rfl (True.intro)))))))
      refine l_iload rfl rfl ?_
      refine l_iload_n rfl rfl ?_
      refine l_icmp_ge rfl rfl (by unfold rg; omega) (by unfold rg; omega) (fun w66 => ?_) (fun w67 => ?_)
      · refine l_return rfl rfl ?_
        exact ⟨hHT1, hFT1, rfl, (by assumption)⟩
      · refine l_aload_n rfl rfl ?_
        refine l_gfi rfl rfl rfl rfl rfl ?_
        have w68 : 0 ≤ (Xi T1 895 14) ∧ (Xi T1 895 14) ≤ 5 := hHT1.c _ _
        refine l_iconst rfl ?_
        refine l_icmp_ge rfl rfl (by unfold rg; omega) (by unfold rg; omega) (fun w69 => ?_) (fun w70 => ?_)
        · refine l_return rfl rfl ?_
          exact ⟨hHT1, hFT1, rfl, (by assumption)⟩
        · refine l_iconst rfl ?_
          refine l_istore rfl rfl rfl ?_
          have w71 : 0 ≤ Xi T1 895 14 ∧ Xi T1 895 14 ≤ 5 := hHT1.c _ _
          exact Rl_weak (C47 _ T1 hHT1 hFT1 (v3) (v4) (1) (by omega) (by omega) (by omega) (by omega) (by first | exact hP93 | exact hP47 | exact hP30) (by first | exact hM93 | exact hM47 | exact hM30) (by omega) (by omega) (by omega) (by first | exact hc47 | exact hc30) (by first | (intro i a b; omega) | exact kr_n hn47 (Or.inl (by omega)) | exact kr_n hn47 (Or.inr (by omega))) (by omega) rfl) (And.intro rfl (And.intro rfl (And.intro rfl (And.intro rfl (And.intro rfl (And.intro rfl (True.intro)))))))
  refine l_aload_n rfl rfl ?_
  refine l_gfi rfl rfl rfl rfl rfl ?_
  refine l_iload_n rfl rfl ?_
  refine l_isub rfl ?_
  refine l_istore_n rfl rfl rfl ?_
  refine l_aload_n rfl rfl ?_
  refine l_aload_n rfl rfl ?_
  refine l_gfi rfl rfl rfl rfl rfl ?_
  refine l_iload_n rfl rfl ?_
  refine l_aload_n rfl rfl ?_
  refine l_gfi rfl rfl rfl rfl rfl ?_
  refine l_iload_n rfl rfl ?_
  refine l_callV rfl rfl rfl (t_me_countParts hH (Xi S 895 12) from_ (Xi S 895 13) dfd ⟨by omega, by omega⟩ ⟨by omega, by omega⟩ ⟨by omega, by omega⟩ ⟨by omega, by omega⟩ (by first | assumption | exact (LEX_FR hF rfl rfl (by assumption : LEX S))) _) ?_
  rintro _ T9 ⟨hHT9, w75, z74, rfl, w74, w72, w73⟩
  have hFT9 : FR md_me_keepReading S T9 := FR.tr hF w75 rfl
  show Rl _ _ _ _ _ [iv z74] _ _
  have hpt : PRT T9 (fA S (Xi S 895 12) from_ dfd) (Xi S 895 13 - from_) (-1) := by apply_assumption <;> omega
  have hpos0 : 0 < cpf (fA S (Xi S 895 12) from_ dfd) (Xi S 895 13 - from_) (Xi S 895 13 - from_).toNat := by have t := hp; unfold cpF at t; rw [if_neg (by omega)] at t; exact t
  refine l_pop rfl rfl ?_
  refine l_aload_n rfl rfl ?_
  refine l_iconst rfl ?_
  refine l_pfi rfl rfl rfl rfl ?_
  obtain ⟨U10, eU10⟩ : ∃ T : sS, T = uI T9 895 14 (Int32.ofInt 0) := ⟨_, rfl⟩
  rw [← eU10]
  have hHU10 : HI U10 := by rw [eU10]; exact HI_w hHT9 (show 0 ≤ 0 by omega) (show 0 ≤ 5 by omega)
  have hFU10 : FR md_me_keepReading S U10 := by rw [eU10]; exact FR.wI hFT9 (mdf_i (r := (895, 896, 14, 15)) (List.mem_of_getElem? (i := 2) rfl) (inR_i (by omega) (by omega) (by omega) (by omega)))
  have w76 : Xi U10 895 14 = 0 := by rw [eU10]; exact Xi_same (by unfold rg; omega)
  have hM0 : MAD U10 := MAD_0 (by omega)
  have hP0 : PRT U10 (fA S (Xi S 895 12) from_ dfd) (Xi S 895 13 - from_) (-1) := PRT_FR (FR_e eU10) rfl hpt
  refine l_iconst rfl ?_
  refine l_istore rfl rfl rfl ?_
  exact Rl_weak (C30 _ U10 hHU10 hFU10 (((Xi S 895 13) - from_)) (0) (by omega) (by omega) (by omega) (by first | exact hP0 | exact hP6) (by first | exact hM0 | exact hM6) (by omega) (by first | exact hx105.1 | (rw [show Xi S 895 13 - from_ - 0 = Xi S 895 13 - from_ by omega]; exact hpos0)) rfl) (And.intro rfl (And.intro rfl (And.intro rfl (And.intro rfl (And.intro rfl (True.intro))))))
def md_re_takeNew : List rec := [(876, 877, 8, 9), (876, 877, 9, 10), (891, 892, 9, 10), (892, 893, 0, 100000), (893, 894, 0, 100000)]
abbrev Q_re_takeNew (S : sS) (from_ : Int) (to : Int) (already : Int) (most : Int) : pst := fun r S1 => HI S1 ∧ FR md_re_takeNew S S1 ∧ (∃ z : Int, r = some (iv z) ∧ (0 ≤ z ∧ z ≤ 1) ∧ (z = 1 → Xi S1 891 9 = Xi S 891 9 + 1 ∧ already + Xi S1 891 9 ≤ most ∧ to - from_ ≤ 3 ∧ Xi S1 892 (Xi S 891 9).toNat = from_ ∧ Xi S1 893 (Xi S 891 9).toNat = to) ∧ (z = 0 → Xi S1 891 9 = Xi S 891 9) ∧ (z = 1 → 1 ≤ to - from_ → mnR S 879 from_.toNat (to - from_).toNat = -1) ∧ (z = 0 → Xi S1 876 8 ≠ 0) ∧ (∀ j : Nat, (j : Int) < Xi S 891 9 → Xi S1 892 j = Xi S 892 j ∧ Xi S1 893 j = Xi S 893 j))
set_option maxRecDepth 100000 in
theorem t_re_takeNew {S : sS} (hH : HI S) (from_ : Int) (to : Int) (already : Int) (most : Int) (hfrom_ : 0 ≤ from_ ∧ from_ ≤ 5130) (hto : 0 ≤ to ∧ to ≤ 5130) (halready : 0 ≤ already ∧ already ≤ 1000) (hmost : 0 ≤ most ∧ most ≤ 1000) (hL : LEX S) (d : Nat) : Mt lay0 (d + 2) m_re_takeNew [.ref 891, iv from_, iv to, iv already, iv most] S (Q_re_takeNew S from_ to already most) := by
  refine Mt_R rfl rfl ?_
  have hF : FR md_re_takeNew S S := FR.rf
  have w1 : 0 ≤ Xi S 891 9 ∧ Xi S 891 9 ≤ 24 := hH.c _ _
  refine l_aload_n rfl rfl ?_
  refine l_gfr rfl rfl rfl rfl rfl (hH.r 891 2 1 rfl) ?_
  refine l_aload_n rfl rfl ?_
  refine l_gfr rfl rfl rfl rfl rfl (hH.r 891 0 876 rfl) ?_
  refine l_gfr rfl rfl rfl rfl rfl (hH.r 876 2 879 rfl) ?_
  refine l_iload_n rfl rfl ?_
  refine l_iload_n rfl rfl ?_
  refine l_callV rfl rfl rfl (t_vo_meaning hH 879 5130 from_ to rfl ⟨by omega, by omega⟩ ⟨by omega, by omega⟩ ⟨by omega, by omega⟩ (by first | assumption | exact (LEX_FR hF rfl rfl (by assumption : LEX S))) _) ?_
  rintro _ _ ⟨rfl, z5, rfl, w5, w2, w3, w4⟩
  show Rl _ _ _ _ _ [iv z5] _ _
  have hmnz5 := mOK_n (z := z5) (by assumption)
  refine l_iconst rfl ?_
  refine l_icmp_ne rfl rfl (by unfold rg; omega) (by unfold rg; omega) (fun w6 => ?_) (fun w7 => ?_)
  · refine l_aload_n rfl rfl ?_
    refine l_gfr rfl rfl rfl rfl rfl (hH.r 891 0 876 rfl) ?_
    refine l_iconst rfl ?_
    refine l_iload_n rfl rfl ?_
    refine l_callV rfl rfl rfl (t_to_wrong hH 3 from_ ⟨by omega, by omega⟩ ⟨by omega, by omega⟩ _) ?_
    rintro _ T1 ⟨hHT1, w11, z10, rfl, w10, w8, w9⟩
    have hFT1 : FR md_re_takeNew S T1 := FR.tr hF w11 rfl
    show Rl _ _ _ _ _ [iv z10] _ _
    refine l_ireturn rfl (retI_z (by omega)) ?_
    have w12 : 0 ≤ Xi T1 876 8 ∧ Xi T1 876 8 ≤ 9 := hHT1.c _ _
    have w13 : Xi T1 891 9 = Xi S 891 9 := (show Xi T1 891 9 = Xi S 891 9 from w11.x _ _ rfl)
    exact ⟨hHT1, hFT1, _, rfl, ⟨by omega, by omega⟩, (by first | (intro hz; exact absurd hz (by omega)) | (intro hz; exact ⟨by omega, by omega, by omega, by rw [eU6, Xi_ne (by omega), eU5, Xi_ne (by omega)]; omega, by rw [eU6, Xi_ne (by omega)]; omega⟩)), (by omega), (by omega), (by omega), (by first | exact fun j hj => ⟨by rw [eU6, Xi_ne (by omega), eU5, Xi_ne (by omega), eU4, Xi_ne (by omega)], by rw [eU6, Xi_ne (by omega), eU5, Xi_ne (by omega), eU4, Xi_ne (by omega)]⟩ | exact fun j _ => ⟨((by assumption : FR md_to_wrong S T1).cx 892 rfl j).1, ((by assumption : FR md_to_wrong S T1).cx 893 rfl j).1⟩)⟩
  · refine l_iload_n rfl rfl ?_
    refine l_iload_n rfl rfl ?_
    refine l_isub rfl ?_
    refine l_iconst rfl ?_
    refine l_icmp_gt rfl rfl (by unfold rg; omega) (by unfold rg; omega) (fun w15 => ?_) (fun w16 => ?_)
    · refine l_aload_n rfl rfl ?_
      refine l_gfr rfl rfl rfl rfl rfl (hH.r 891 0 876 rfl) ?_
      refine l_iconst rfl ?_
      refine l_iload_n rfl rfl ?_
      refine l_callV rfl rfl rfl (t_to_wrong hH 3 from_ ⟨by omega, by omega⟩ ⟨by omega, by omega⟩ _) ?_
      rintro _ T2 ⟨hHT2, w20, z19, rfl, w19, w17, w18⟩
      have hFT2 : FR md_re_takeNew S T2 := FR.tr hF w20 rfl
      show Rl _ _ _ _ _ [iv z19] _ _
      refine l_ireturn rfl (retI_z (by omega)) ?_
      have w21 : 0 ≤ Xi T2 876 8 ∧ Xi T2 876 8 ≤ 9 := hHT2.c _ _
      have w22 : Xi T2 891 9 = Xi S 891 9 := (show Xi T2 891 9 = Xi S 891 9 from w20.x _ _ rfl)
      exact ⟨hHT2, hFT2, _, rfl, ⟨by omega, by omega⟩, (by first | (intro hz; exact absurd hz (by omega)) | (intro hz; exact ⟨by omega, by omega, by omega, by rw [eU6, Xi_ne (by omega), eU5, Xi_ne (by omega)]; omega, by rw [eU6, Xi_ne (by omega)]; omega⟩)), (by omega), (by omega), (by omega), (by first | exact fun j hj => ⟨by rw [eU6, Xi_ne (by omega), eU5, Xi_ne (by omega), eU4, Xi_ne (by omega)], by rw [eU6, Xi_ne (by omega), eU5, Xi_ne (by omega), eU4, Xi_ne (by omega)]⟩ | exact fun j _ => ⟨((by assumption : FR md_to_wrong S T2).cx 892 rfl j).1, ((by assumption : FR md_to_wrong S T2).cx 893 rfl j).1⟩)⟩
    · refine l_aload_n rfl rfl ?_
      refine l_iload_n rfl rfl ?_
      refine l_iload_n rfl rfl ?_
      refine l_callV rfl rfl rfl (t_re_wasNew hH from_ to ⟨by omega, by omega⟩ ⟨by omega, by omega⟩ _) ?_
      rintro _ _ ⟨rfl, z24, rfl, w24⟩
      show Rl _ _ _ _ _ [iv z24] _ _
      refine l_if_eq rfl rfl (by unfold rg; omega) (fun w25 => ?_) (fun w26 => ?_)
      · refine l_iload_n rfl rfl ?_
        refine l_aload_n rfl rfl ?_
        refine l_gfi rfl rfl rfl rfl rfl ?_
        refine l_iadd rfl ?_
        refine l_iload rfl rfl ?_
        refine l_icmp_ge rfl rfl (by unfold rg; omega) (by unfold rg; omega) (fun w27 => ?_) (fun w28 => ?_)
        · refine l_aload_n rfl rfl ?_
          refine l_gfr rfl rfl rfl rfl rfl (hH.r 891 0 876 rfl) ?_
          refine l_bipush rfl rfl ?_
          refine l_iload_n rfl rfl ?_
          refine l_callV rfl rfl rfl (t_to_wrong hH 9 from_ ⟨by omega, by omega⟩ ⟨by omega, by omega⟩ _) ?_
          rintro _ T3 ⟨hHT3, w32, z31, rfl, w31, w29, w30⟩
          have hFT3 : FR md_re_takeNew S T3 := FR.tr hF w32 rfl
          show Rl _ _ _ _ _ [iv z31] _ _
          refine l_ireturn rfl (retI_z (by omega)) ?_
          have w33 : 0 ≤ Xi T3 876 8 ∧ Xi T3 876 8 ≤ 9 := hHT3.c _ _
          have w34 : Xi T3 891 9 = Xi S 891 9 := (show Xi T3 891 9 = Xi S 891 9 from w32.x _ _ rfl)
          exact ⟨hHT3, hFT3, _, rfl, ⟨by omega, by omega⟩, (by first | (intro hz; exact absurd hz (by omega)) | (intro hz; exact ⟨by omega, by omega, by omega, by rw [eU6, Xi_ne (by omega), eU5, Xi_ne (by omega)]; omega, by rw [eU6, Xi_ne (by omega)]; omega⟩)), (by omega), (by omega), (by omega), (by first | exact fun j hj => ⟨by rw [eU6, Xi_ne (by omega), eU5, Xi_ne (by omega), eU4, Xi_ne (by omega)], by rw [eU6, Xi_ne (by omega), eU5, Xi_ne (by omega), eU4, Xi_ne (by omega)]⟩ | exact fun j _ => ⟨((by assumption : FR md_to_wrong S T3).cx 892 rfl j).1, ((by assumption : FR md_to_wrong S T3).cx 893 rfl j).1⟩)⟩
        · refine l_aload_n rfl rfl ?_
          refine l_gfi rfl rfl rfl rfl rfl ?_
          refine l_aload_n rfl rfl ?_
          refine l_gfr rfl rfl rfl rfl rfl (hH.r 891 7 892 rfl) ?_
          refine l_alen (n := 24) (z := 24) rfl rfl rfl rfl rfl ?_
          refine l_icmp_lt rfl rfl (by unfold rg; omega) (by unfold rg; omega) (fun w36 => ?_) (fun w37 => ?_)
          · refine l_aload_n rfl rfl ?_
            refine l_gfr rfl rfl rfl rfl rfl (hH.r 891 7 892 rfl) ?_
            refine l_aload_n rfl rfl ?_
            refine l_gfi rfl rfl rfl rfl rfl ?_
            refine l_iload_n rfl rfl ?_
            refine l_iastore (n := 24) rfl rfl (by omega) (by omega) (by unfold rg; omega) ?_
            obtain ⟨U4, eU4⟩ : ∃ T : sS, T = uI S 892 (((Xi S 891 9)).toNat) (Int32.ofInt from_) := ⟨_, rfl⟩
            rw [← eU4]
            have hHU4 : HI U4 := by rw [eU4]; exact HI_w hH (show 0 ≤ from_ by omega) (show from_ ≤ 5130 by omega)
            have hFU4 : FR md_re_takeNew S U4 := by rw [eU4]; exact FR.wI hF (mdf_i (r := (892, 893, 0, 100000)) (List.mem_of_getElem? (i := 3) rfl) (inR_i (by omega) (by omega) (by omega) (by omega)))
            have w38 : Xi U4 892 (((Xi S 891 9)).toNat) = from_ := by rw [eU4]; exact Xi_same (by unfold rg; omega)
            refine l_aload_n rfl rfl ?_
            refine l_gfr rfl rfl rfl rfl rfl (hHU4.r 891 8 893 rfl) ?_
            refine l_aload_n rfl rfl ?_
            refine l_gfi rfl rfl rfl rfl rfl ?_
            have w39 : (Xi U4 891 9) = (Xi S 891 9) := (show Xi U4 891 9 = Xi S 891 9 from by rw [eU4]; exact Xi_ne (by omega))
            rw [w39]
            refine l_iload_n rfl rfl ?_
            refine l_iastore (n := 24) rfl rfl (by omega) (by omega) (by unfold rg; omega) ?_
            obtain ⟨U5, eU5⟩ : ∃ T : sS, T = uI U4 893 (((Xi S 891 9)).toNat) (Int32.ofInt to) := ⟨_, rfl⟩
            rw [← eU5]
            have hHU5 : HI U5 := by rw [eU5]; exact HI_w hHU4 (show 0 ≤ to by omega) (show to ≤ 5130 by omega)
            have hFU5 : FR md_re_takeNew S U5 := by rw [eU5]; exact FR.wI hFU4 (mdf_i (r := (893, 894, 0, 100000)) (List.mem_of_getElem? (i := 4) rfl) (inR_i (by omega) (by omega) (by omega) (by omega)))
            have w40 : Xi U5 893 (((Xi S 891 9)).toNat) = to := by rw [eU5]; exact Xi_same (by unfold rg; omega)
            refine l_aload_n rfl rfl ?_
            refine l_dup rfl rfl ?_
            refine l_gfi rfl rfl rfl rfl rfl ?_
            have w41 : (Xi U5 891 9) = (Xi S 891 9) := (show Xi U5 891 9 = Xi U4 891 9 from by rw [eU5]; exact Xi_ne (by omega)).trans ((show Xi U4 891 9 = Xi S 891 9 from by rw [eU4]; exact Xi_ne (by omega)))
            rw [w41]
            refine l_iconst rfl ?_
            refine l_iadd rfl ?_
            refine l_pfi rfl rfl rfl rfl ?_
            obtain ⟨U6, eU6⟩ : ∃ T : sS, T = uI U5 891 9 (Int32.ofInt ((Xi S 891 9) + 1)) := ⟨_, rfl⟩
            rw [← eU6]
            have hHU6 : HI U6 := by rw [eU6]; exact HI_w hHU5 (show 0 ≤ ((Xi S 891 9) + 1) by omega) (show ((Xi S 891 9) + 1) ≤ 24 by omega)
            have hFU6 : FR md_re_takeNew S U6 := by rw [eU6]; exact FR.wI hFU5 (mdf_i (r := (891, 892, 9, 10)) (List.mem_of_getElem? (i := 2) rfl) (inR_i (by omega) (by omega) (by omega) (by omega)))
            have w42 : Xi U6 891 9 = ((Xi S 891 9) + 1) := by rw [eU6]; exact Xi_same (by unfold rg; omega)
            refine l_iconst rfl ?_
            refine l_ireturn rfl rfl ?_
            have w43 : Xi U6 876 8 = Xi S 876 8 := (show Xi U6 876 8 = Xi U5 876 8 from by rw [eU6]; exact Xi_ne (by omega)).trans ( (show Xi U5 876 8 = Xi U4 876 8 from by rw [eU5]; exact Xi_ne (by omega)).trans ((show Xi U4 876 8 = Xi S 876 8 from by rw [eU4]; exact Xi_ne (by omega))))
            have w44 : 0 ≤ Xi S 876 8 ∧ Xi S 876 8 ≤ 9 := hH.c _ _
            have w45 : 0 ≤ Xi U6 891 9 ∧ Xi U6 891 9 ≤ 24 := hHU6.c _ _
            exact ⟨hHU6, hFU6, _, rfl, ⟨by omega, by omega⟩, (by first | (intro hz; exact absurd hz (by omega)) | (intro hz; exact ⟨by omega, by omega, by omega, by rw [eU6, Xi_ne (by omega), eU5, Xi_ne (by omega)]; omega, by rw [eU6, Xi_ne (by omega)]; omega⟩)), (by omega), (by omega), (by omega), (by first | exact fun j hj => ⟨by rw [eU6, Xi_ne (by omega), eU5, Xi_ne (by omega), eU4, Xi_ne (by omega)], by rw [eU6, Xi_ne (by omega), eU5, Xi_ne (by omega), eU4, Xi_ne (by omega)]⟩ | exact fun j _ => ⟨((by assumption : FR md_to_wrong S U6).cx 892 rfl j).1, ((by assumption : FR md_to_wrong S U6).cx 893 rfl j).1⟩)⟩
          · refine l_aload_n rfl rfl ?_
            refine l_gfr rfl rfl rfl rfl rfl (hH.r 891 0 876 rfl) ?_
            refine l_bipush rfl rfl ?_
            refine l_iload_n rfl rfl ?_
            refine l_callV rfl rfl rfl (t_to_wrong hH 9 from_ ⟨by omega, by omega⟩ ⟨by omega, by omega⟩ _) ?_
            rintro _ T7 ⟨hHT7, w49, z48, rfl, w48, w46, w47⟩
            have hFT7 : FR md_re_takeNew S T7 := FR.tr hF w49 rfl
            show Rl _ _ _ _ _ [iv z48] _ _
            refine l_ireturn rfl (retI_z (by omega)) ?_
            have w50 : 0 ≤ Xi T7 876 8 ∧ Xi T7 876 8 ≤ 9 := hHT7.c _ _
            have w51 : Xi T7 891 9 = Xi S 891 9 := (show Xi T7 891 9 = Xi S 891 9 from w49.x _ _ rfl)
            exact ⟨hHT7, hFT7, _, rfl, ⟨by omega, by omega⟩, (by first | (intro hz; exact absurd hz (by omega)) | (intro hz; exact ⟨by omega, by omega, by omega, by rw [eU6, Xi_ne (by omega), eU5, Xi_ne (by omega)]; omega, by rw [eU6, Xi_ne (by omega)]; omega⟩)), (by omega), (by omega), (by omega), (by first | exact fun j hj => ⟨by rw [eU6, Xi_ne (by omega), eU5, Xi_ne (by omega), eU4, Xi_ne (by omega)], by rw [eU6, Xi_ne (by omega), eU5, Xi_ne (by omega), eU4, Xi_ne (by omega)]⟩ | exact fun j _ => ⟨((by assumption : FR md_to_wrong S T7).cx 892 rfl j).1, ((by assumption : FR md_to_wrong S T7).cx 893 rfl j).1⟩)⟩
      · refine l_aload_n rfl rfl ?_
        refine l_gfr rfl rfl rfl rfl rfl (hH.r 891 0 876 rfl) ?_
        refine l_iconst rfl ?_
        refine l_iload_n rfl rfl ?_
        refine l_callV rfl rfl rfl (t_to_wrong hH 3 from_ ⟨by omega, by omega⟩ ⟨by omega, by omega⟩ _) ?_
        rintro _ T8 ⟨hHT8, w56, z55, rfl, w55, w53, w54⟩
        have hFT8 : FR md_re_takeNew S T8 := FR.tr hF w56 rfl
        show Rl _ _ _ _ _ [iv z55] _ _
        refine l_ireturn rfl (retI_z (by omega)) ?_
        have w57 : 0 ≤ Xi T8 876 8 ∧ Xi T8 876 8 ≤ 9 := hHT8.c _ _
        have w58 : Xi T8 891 9 = Xi S 891 9 := (show Xi T8 891 9 = Xi S 891 9 from w56.x _ _ rfl)
        exact ⟨hHT8, hFT8, _, rfl, ⟨by omega, by omega⟩, (by first | (intro hz; exact absurd hz (by omega)) | (intro hz; exact ⟨by omega, by omega, by omega, by rw [eU6, Xi_ne (by omega), eU5, Xi_ne (by omega)]; omega, by rw [eU6, Xi_ne (by omega)]; omega⟩)), (by omega), (by omega), (by omega), (by first | exact fun j hj => ⟨by rw [eU6, Xi_ne (by omega), eU5, Xi_ne (by omega), eU4, Xi_ne (by omega)], by rw [eU6, Xi_ne (by omega), eU5, Xi_ne (by omega), eU4, Xi_ne (by omega)]⟩ | exact fun j _ => ⟨((by assumption : FR md_to_wrong S T8).cx 892 rfl j).1, ((by assumption : FR md_to_wrong S T8).cx 893 rfl j).1⟩)⟩
def md_re_takePlace : List rec := [(876, 877, 8, 9), (876, 877, 9, 10), (891, 892, 11, 12), (891, 892, 12, 13)]
abbrev Q_re_takePlace (S : sS) (at_ : Int) : pst := fun r S1 => HI S1 ∧ FR md_re_takePlace S S1 ∧ (∃ z : Int, r = some (iv z) ∧ (0 ≤ z ∧ z ≤ 1) ∧ (z = 1 → 0 ≤ Xi S1 891 12 ∧ 1 ≤ Xi S1 891 11) ∧ (z = 0 → Xi S1 876 8 ≠ 0))
set_option maxRecDepth 100000 in
theorem t_re_takePlace {S : sS} (hH : HI S) (at_ : Int) (hat_ : 0 ≤ at_ ∧ at_ ≤ 5140) (hL : LEX S) (d : Nat) : Mt lay0 (d + 4) m_re_takePlace [.ref 891, iv at_] S (Q_re_takePlace S at_) := by
  refine Mt_R rfl rfl ?_
  have hF : FR md_re_takePlace S S := FR.rf
  have C90 : ∀  (T1 : sS) (_ : HI T1) (_ : FR md_re_takePlace S T1) (v3 : Int), (-2147483648 ≤ v3 ∧ v3 ≤ 2147483647) → Rl lay0 (d + 3) m_re_takePlace 90 [(0, .ref 891), (3, iv v3)] [] T1 (Q_re_takePlace S at_) := by
    intro T1 hHT1 hFT1 v3 w1
    have w2 : Xi T1 876 7 = Xi S 876 7 := hFT1.x _ _ rfl
    refine l_aload_n rfl rfl ?_
    refine l_gfr rfl rfl rfl rfl rfl (hHT1.r 891 0 876 rfl) ?_
    refine l_iconst rfl ?_
    refine l_iload_n rfl rfl ?_
    refine l_callV rfl rfl rfl (t_to_wrong hHT1 4 v3 ⟨by omega, by omega⟩ ⟨by omega, by omega⟩ _) ?_
    rintro _ T2 ⟨hHT2, w6, z5, rfl, w5, w3, w4⟩
    have hFT2 : FR md_re_takePlace S T2 := FR.tr hFT1 w6 rfl
    show Rl _ _ _ _ _ [iv z5] _ _
    refine l_if_eq rfl rfl (by unfold rg; omega) (fun w7 => ?_) (fun w8 => ?_)
    · refine l_iconst rfl ?_
      refine l_ireturn rfl rfl ?_
      have w9 : 0 ≤ Xi T2 876 8 ∧ Xi T2 876 8 ≤ 9 := hHT2.c _ _
      have w10 : Xi T2 891 11 = Xi T1 891 11 := (show Xi T2 891 11 = Xi T1 891 11 from w6.x _ _ rfl)
      have w11 : 0 ≤ Xi T1 891 11 ∧ Xi T1 891 11 ≤ 5 := hHT1.c _ _
      have w12 : Xi T2 891 12 = Xi T1 891 12 := (show Xi T2 891 12 = Xi T1 891 12 from w6.x _ _ rfl)
      have w13 : -1 ≤ Xi T1 891 12 ∧ Xi T1 891 12 ≤ 23 := hHT1.c _ _
      exact ⟨hHT2, hFT2, _, rfl, ⟨by omega, by omega⟩, (by first | assumption | omega), (by first | assumption | omega)⟩
    · refine l_iconst rfl ?_
      refine l_goto rfl rfl ?_
      refine l_ireturn rfl rfl ?_
      have w14 : 0 ≤ Xi T2 876 8 ∧ Xi T2 876 8 ≤ 9 := hHT2.c _ _
      have w15 : Xi T2 891 11 = Xi T1 891 11 := (show Xi T2 891 11 = Xi T1 891 11 from w6.x _ _ rfl)
      have w16 : 0 ≤ Xi T1 891 11 ∧ Xi T1 891 11 ≤ 5 := hHT1.c _ _
      have w17 : Xi T2 891 12 = Xi T1 891 12 := (show Xi T2 891 12 = Xi T1 891 12 from w6.x _ _ rfl)
      have w18 : -1 ≤ Xi T1 891 12 ∧ Xi T1 891 12 ≤ 23 := hHT1.c _ _
      exact ⟨hHT2, hFT2, _, rfl, ⟨by omega, by omega⟩, (by first | assumption | omega), (by first | assumption | omega)⟩
  refine l_aload_n rfl rfl ?_
  refine l_gfr rfl rfl rfl rfl rfl (hH.r 891 0 876 rfl) ?_
  refine l_iload_n rfl rfl ?_
  have w19 : 0 ≤ Xi S 876 7 ∧ Xi S 876 7 ≤ 5125 := hH.c _ _
  refine l_callV rfl rfl rfl (t_to_typeAt hH at_ ⟨by omega, by omega⟩ _) ?_
  rintro _ _ ⟨rfl, z23, rfl, w23, w20, w21, w22⟩
  show Rl _ _ _ _ _ [iv z23] _ _
  refine l_istore_n rfl rfl rfl ?_
  refine l_aload_n rfl rfl ?_
  refine l_gfr rfl rfl rfl rfl rfl (hH.r 891 0 876 rfl) ?_
  refine l_iload_n rfl rfl ?_
  refine l_bipush rfl rfl ?_
  refine l_icmp_eq rfl rfl (by unfold rg; omega) (by unfold rg; omega) (fun w24 => ?_) (fun w25 => ?_)
  · refine l_iload_n rfl rfl ?_
    refine l_iconst rfl ?_
    refine l_iadd rfl ?_
    refine l_goto rfl rfl ?_
    refine l_callV rfl rfl rfl (t_to_behindArt hH (at_ + 1) ⟨by omega, by omega⟩ _) ?_
    rintro _ _ ⟨rfl, z28, rfl, w28, w27⟩
    show Rl _ _ _ _ _ [iv z28] _ _
    refine l_istore_n rfl rfl rfl ?_
    refine l_aload_n rfl rfl ?_
    refine l_iload_n rfl rfl ?_
    refine l_callS rfl rfl (by decide) rfl (t_rr_wayOf hH z23 ⟨by omega, by omega⟩ _) ?_
    rintro _ _ ⟨rfl, z29, rfl, w29⟩
    show Rl _ _ _ _ _ [iv z29, .ref 891] _ _
    refine l_pfi rfl rfl rfl rfl ?_
    obtain ⟨U3, eU3⟩ : ∃ T : sS, T = uI S 891 11 (Int32.ofInt z29) := ⟨_, rfl⟩
    rw [← eU3]
    have hHU3 : HI U3 := by rw [eU3]; exact HI_w hH (show 0 ≤ z29 by omega) (show z29 ≤ 5 by omega)
    have hFU3 : FR md_re_takePlace S U3 := by rw [eU3]; exact FR.wI hF (mdf_i (r := (891, 892, 11, 12)) (List.mem_of_getElem? (i := 2) rfl) (inR_i (by omega) (by omega) (by omega) (by omega)))
    have w30 : Xi U3 891 11 = z29 := by rw [eU3]; exact Xi_same (by unfold rg; omega)
    refine l_aload_n rfl rfl ?_
    refine l_aload_n rfl rfl ?_
    refine l_gfr rfl rfl rfl rfl rfl (hHU3.r 891 4 895 rfl) ?_
    refine l_iconst rfl ?_
    refine l_iload_n rfl rfl ?_
    refine l_aload_n rfl rfl ?_
    refine l_gfr rfl rfl rfl rfl rfl (hHU3.r 891 0 876 rfl) ?_
    refine l_iload_n rfl rfl ?_
    have w31 : Xi U3 876 7 = Xi S 876 7 := (show Xi U3 876 7 = Xi S 876 7 from by rw [eU3]; exact Xi_ne (by omega))
    refine l_callV rfl rfl rfl (t_to_runEnd hHU3 z28 ⟨by omega, by omega⟩ _) ?_
    rintro _ _ ⟨rfl, z40, rfl, w40, w33, w34, w35, w36, w37, w38, w39⟩
    show Rl _ _ _ _ _ [iv z40, iv z28, iv 2, .ref 895, .ref 891] _ _
    refine l_callV rfl rfl rfl (t_me_find hHU3 2 z28 z40 ⟨by omega, by omega⟩ ⟨by omega, by omega⟩ ⟨by omega, by omega⟩ (by first | assumption | exact (LEX_FR hFU3 rfl rfl (by assumption : LEX S))) _) ?_
    rintro _ _ ⟨rfl, z44, rfl, w44, w41, w42, w43⟩
    have w45 : z44 ≠ -1 → _ := fun h => fb2 hHU3 (w41 h)
    show Rl _ _ _ _ _ [iv z44, .ref 891] _ _
    refine l_pfi rfl rfl rfl rfl ?_
    obtain ⟨U4, eU4⟩ : ∃ T : sS, T = uI U3 891 12 (Int32.ofInt z44) := ⟨_, rfl⟩
    rw [← eU4]
    have hHU4 : HI U4 := by rw [eU4]; exact HI_w hHU3 (show -1 ≤ z44 by omega) (show z44 ≤ 23 by omega)
    have hFU4 : FR md_re_takePlace S U4 := by rw [eU4]; exact FR.wI hFU3 (mdf_i (r := (891, 892, 12, 13)) (List.mem_of_getElem? (i := 3) rfl) (inR_i (by omega) (by omega) (by omega) (by omega)))
    have w46 : Xi U4 891 12 = z44 := by rw [eU4]; exact Xi_same (by unfold rg; omega)
    refine l_aload_n rfl rfl ?_
    refine l_gfi rfl rfl rfl rfl rfl ?_
    refine l_iconst rfl ?_
    refine l_icmp_eq rfl rfl (by unfold rg; omega) (by unfold rg; omega) (fun w47 => ?_) (fun w48 => ?_)
    · exact Rl_weak (C90 U4 hHU4 hFU4 (z28) (by omega)) (And.intro rfl (And.intro rfl (True.intro)))
    · refine l_aload_n rfl rfl ?_
      refine l_aload_n rfl rfl ?_
      refine l_gfi rfl rfl rfl rfl rfl ?_
      refine l_aload_n rfl rfl ?_
      refine l_gfi rfl rfl rfl rfl rfl ?_
      have w49 : (Xi U4 891 11) = (Xi U3 891 11) := (show Xi U4 891 11 = Xi U3 891 11 from by rw [eU4]; exact Xi_ne (by omega))
      rw [w49]
      refine l_callV rfl rfl rfl (t_re_canHold hHU4 (Xi U4 891 12) (Xi U3 891 11) ⟨by omega, by omega⟩ ⟨by omega, by omega⟩ _) ?_
      rintro _ _ ⟨rfl, z50, rfl, w50⟩
      show Rl _ _ _ _ _ [iv z50] _ _
      refine l_if_ne rfl rfl (by unfold rg; omega) (fun w51 => ?_) (fun w52 => ?_)
      · refine l_iconst rfl ?_
        refine l_goto rfl rfl ?_
        refine l_ireturn rfl rfl ?_
        have w53 : Xi U4 876 8 = Xi S 876 8 := (show Xi U4 876 8 = Xi U3 876 8 from by rw [eU4]; exact Xi_ne (by omega)).trans ((show Xi U3 876 8 = Xi S 876 8 from by rw [eU3]; exact Xi_ne (by omega)))
        have w54 : 0 ≤ Xi S 876 8 ∧ Xi S 876 8 ≤ 9 := hH.c _ _
        have w55 : Xi U4 891 11 = Xi U3 891 11 := (show Xi U4 891 11 = Xi U3 891 11 from by rw [eU4]; exact Xi_ne (by omega))
        have w56 : 0 ≤ Xi U3 891 11 ∧ Xi U3 891 11 ≤ 5 := hHU3.c _ _
        have w57 : -1 ≤ Xi U4 891 12 ∧ Xi U4 891 12 ≤ 23 := hHU4.c _ _
        exact ⟨hHU4, hFU4, _, rfl, ⟨by omega, by omega⟩, (by first | assumption | omega), (by first | assumption | omega)⟩
      · exact Rl_weak (C90 U4 hHU4 hFU4 (z28) (by omega)) (And.intro rfl (And.intro rfl (True.intro)))
  · refine l_iload_n rfl rfl ?_
    refine l_bipush rfl rfl ?_
    refine l_icmp_ne rfl rfl (by unfold rg; omega) (by unfold rg; omega) (fun w58 => ?_) (fun w59 => ?_)
    · refine l_iload_n rfl rfl ?_
      refine l_iconst rfl ?_
      refine l_iadd rfl ?_
      refine l_callV rfl rfl rfl (t_to_behindArt hH (at_ + 2) ⟨by omega, by omega⟩ _) ?_
      rintro _ _ ⟨rfl, z62, rfl, w62, w61⟩
      show Rl _ _ _ _ _ [iv z62] _ _
      refine l_istore_n rfl rfl rfl ?_
      refine l_aload_n rfl rfl ?_
      refine l_iload_n rfl rfl ?_
      refine l_callS rfl rfl (by decide) rfl (t_rr_wayOf hH z23 ⟨by omega, by omega⟩ _) ?_
      rintro _ _ ⟨rfl, z63, rfl, w63⟩
      show Rl _ _ _ _ _ [iv z63, .ref 891] _ _
      refine l_pfi rfl rfl rfl rfl ?_
      obtain ⟨U5, eU5⟩ : ∃ T : sS, T = uI S 891 11 (Int32.ofInt z63) := ⟨_, rfl⟩
      rw [← eU5]
      have hHU5 : HI U5 := by rw [eU5]; exact HI_w hH (show 0 ≤ z63 by omega) (show z63 ≤ 5 by omega)
      have hFU5 : FR md_re_takePlace S U5 := by rw [eU5]; exact FR.wI hF (mdf_i (r := (891, 892, 11, 12)) (List.mem_of_getElem? (i := 2) rfl) (inR_i (by omega) (by omega) (by omega) (by omega)))
      have w64 : Xi U5 891 11 = z63 := by rw [eU5]; exact Xi_same (by unfold rg; omega)
      refine l_aload_n rfl rfl ?_
      refine l_aload_n rfl rfl ?_
      refine l_gfr rfl rfl rfl rfl rfl (hHU5.r 891 4 895 rfl) ?_
      refine l_iconst rfl ?_
      refine l_iload_n rfl rfl ?_
      refine l_aload_n rfl rfl ?_
      refine l_gfr rfl rfl rfl rfl rfl (hHU5.r 891 0 876 rfl) ?_
      refine l_iload_n rfl rfl ?_
      have w65 : Xi U5 876 7 = Xi S 876 7 := (show Xi U5 876 7 = Xi S 876 7 from by rw [eU5]; exact Xi_ne (by omega))
      refine l_callV rfl rfl rfl (t_to_runEnd hHU5 z62 ⟨by omega, by omega⟩ _) ?_
      rintro _ _ ⟨rfl, z74, rfl, w74, w67, w68, w69, w70, w71, w72, w73⟩
      show Rl _ _ _ _ _ [iv z74, iv z62, iv 2, .ref 895, .ref 891] _ _
      refine l_callV rfl rfl rfl (t_me_find hHU5 2 z62 z74 ⟨by omega, by omega⟩ ⟨by omega, by omega⟩ ⟨by omega, by omega⟩ (by first | assumption | exact (LEX_FR hFU5 rfl rfl (by assumption : LEX S))) _) ?_
      rintro _ _ ⟨rfl, z78, rfl, w78, w75, w76, w77⟩
      have w79 : z78 ≠ -1 → _ := fun h => fb2 hHU5 (w75 h)
      show Rl _ _ _ _ _ [iv z78, .ref 891] _ _
      refine l_pfi rfl rfl rfl rfl ?_
      obtain ⟨U6, eU6⟩ : ∃ T : sS, T = uI U5 891 12 (Int32.ofInt z78) := ⟨_, rfl⟩
      rw [← eU6]
      have hHU6 : HI U6 := by rw [eU6]; exact HI_w hHU5 (show -1 ≤ z78 by omega) (show z78 ≤ 23 by omega)
      have hFU6 : FR md_re_takePlace S U6 := by rw [eU6]; exact FR.wI hFU5 (mdf_i (r := (891, 892, 12, 13)) (List.mem_of_getElem? (i := 3) rfl) (inR_i (by omega) (by omega) (by omega) (by omega)))
      have w80 : Xi U6 891 12 = z78 := by rw [eU6]; exact Xi_same (by unfold rg; omega)
      refine l_aload_n rfl rfl ?_
      refine l_gfi rfl rfl rfl rfl rfl ?_
      refine l_iconst rfl ?_
      refine l_icmp_eq rfl rfl (by unfold rg; omega) (by unfold rg; omega) (fun w81 => ?_) (fun w82 => ?_)
      · exact Rl_weak (C90 U6 hHU6 hFU6 (z62) (by omega)) (And.intro rfl (And.intro rfl (True.intro)))
      · refine l_aload_n rfl rfl ?_
        refine l_aload_n rfl rfl ?_
        refine l_gfi rfl rfl rfl rfl rfl ?_
        refine l_aload_n rfl rfl ?_
        refine l_gfi rfl rfl rfl rfl rfl ?_
        have w83 : (Xi U6 891 11) = (Xi U5 891 11) := (show Xi U6 891 11 = Xi U5 891 11 from by rw [eU6]; exact Xi_ne (by omega))
        rw [w83]
        refine l_callV rfl rfl rfl (t_re_canHold hHU6 (Xi U6 891 12) (Xi U5 891 11) ⟨by omega, by omega⟩ ⟨by omega, by omega⟩ _) ?_
        rintro _ _ ⟨rfl, z84, rfl, w84⟩
        show Rl _ _ _ _ _ [iv z84] _ _
        refine l_if_ne rfl rfl (by unfold rg; omega) (fun w85 => ?_) (fun w86 => ?_)
        · refine l_iconst rfl ?_
          refine l_goto rfl rfl ?_
          refine l_ireturn rfl rfl ?_
          have w87 : Xi U6 876 8 = Xi S 876 8 := (show Xi U6 876 8 = Xi U5 876 8 from by rw [eU6]; exact Xi_ne (by omega)).trans ((show Xi U5 876 8 = Xi S 876 8 from by rw [eU5]; exact Xi_ne (by omega)))
          have w88 : 0 ≤ Xi S 876 8 ∧ Xi S 876 8 ≤ 9 := hH.c _ _
          have w89 : Xi U6 891 11 = Xi U5 891 11 := (show Xi U6 891 11 = Xi U5 891 11 from by rw [eU6]; exact Xi_ne (by omega))
          have w90 : 0 ≤ Xi U5 891 11 ∧ Xi U5 891 11 ≤ 5 := hHU5.c _ _
          have w91 : -1 ≤ Xi U6 891 12 ∧ Xi U6 891 12 ≤ 23 := hHU6.c _ _
          exact ⟨hHU6, hFU6, _, rfl, ⟨by omega, by omega⟩, (by first | assumption | omega), (by first | assumption | omega)⟩
        · exact Rl_weak (C90 U6 hHU6 hFU6 (z62) (by omega)) (And.intro rfl (And.intro rfl (True.intro)))
    · refine l_iload_n rfl rfl ?_
      refine l_iconst rfl ?_
      refine l_iadd rfl ?_
      refine l_goto rfl rfl ?_
      refine l_callV rfl rfl rfl (t_to_behindArt hH (at_ + 1) ⟨by omega, by omega⟩ _) ?_
      rintro _ _ ⟨rfl, z94, rfl, w94, w93⟩
      show Rl _ _ _ _ _ [iv z94] _ _
      refine l_istore_n rfl rfl rfl ?_
      refine l_aload_n rfl rfl ?_
      refine l_iload_n rfl rfl ?_
      refine l_callS rfl rfl (by decide) rfl (t_rr_wayOf hH z23 ⟨by omega, by omega⟩ _) ?_
      rintro _ _ ⟨rfl, z95, rfl, w95⟩
      show Rl _ _ _ _ _ [iv z95, .ref 891] _ _
      refine l_pfi rfl rfl rfl rfl ?_
      obtain ⟨U7, eU7⟩ : ∃ T : sS, T = uI S 891 11 (Int32.ofInt z95) := ⟨_, rfl⟩
      rw [← eU7]
      have hHU7 : HI U7 := by rw [eU7]; exact HI_w hH (show 0 ≤ z95 by omega) (show z95 ≤ 5 by omega)
      have hFU7 : FR md_re_takePlace S U7 := by rw [eU7]; exact FR.wI hF (mdf_i (r := (891, 892, 11, 12)) (List.mem_of_getElem? (i := 2) rfl) (inR_i (by omega) (by omega) (by omega) (by omega)))
      have w96 : Xi U7 891 11 = z95 := by rw [eU7]; exact Xi_same (by unfold rg; omega)
      refine l_aload_n rfl rfl ?_
      refine l_aload_n rfl rfl ?_
      refine l_gfr rfl rfl rfl rfl rfl (hHU7.r 891 4 895 rfl) ?_
      refine l_iconst rfl ?_
      refine l_iload_n rfl rfl ?_
      refine l_aload_n rfl rfl ?_
      refine l_gfr rfl rfl rfl rfl rfl (hHU7.r 891 0 876 rfl) ?_
      refine l_iload_n rfl rfl ?_
      have w97 : Xi U7 876 7 = Xi S 876 7 := (show Xi U7 876 7 = Xi S 876 7 from by rw [eU7]; exact Xi_ne (by omega))
      refine l_callV rfl rfl rfl (t_to_runEnd hHU7 z94 ⟨by omega, by omega⟩ _) ?_
      rintro _ _ ⟨rfl, z106, rfl, w106, w99, w100, w101, w102, w103, w104, w105⟩
      show Rl _ _ _ _ _ [iv z106, iv z94, iv 2, .ref 895, .ref 891] _ _
      refine l_callV rfl rfl rfl (t_me_find hHU7 2 z94 z106 ⟨by omega, by omega⟩ ⟨by omega, by omega⟩ ⟨by omega, by omega⟩ (by first | assumption | exact (LEX_FR hFU7 rfl rfl (by assumption : LEX S))) _) ?_
      rintro _ _ ⟨rfl, z110, rfl, w110, w107, w108, w109⟩
      have w111 : z110 ≠ -1 → _ := fun h => fb2 hHU7 (w107 h)
      show Rl _ _ _ _ _ [iv z110, .ref 891] _ _
      refine l_pfi rfl rfl rfl rfl ?_
      obtain ⟨U8, eU8⟩ : ∃ T : sS, T = uI U7 891 12 (Int32.ofInt z110) := ⟨_, rfl⟩
      rw [← eU8]
      have hHU8 : HI U8 := by rw [eU8]; exact HI_w hHU7 (show -1 ≤ z110 by omega) (show z110 ≤ 23 by omega)
      have hFU8 : FR md_re_takePlace S U8 := by rw [eU8]; exact FR.wI hFU7 (mdf_i (r := (891, 892, 12, 13)) (List.mem_of_getElem? (i := 3) rfl) (inR_i (by omega) (by omega) (by omega) (by omega)))
      have w112 : Xi U8 891 12 = z110 := by rw [eU8]; exact Xi_same (by unfold rg; omega)
      refine l_aload_n rfl rfl ?_
      refine l_gfi rfl rfl rfl rfl rfl ?_
      refine l_iconst rfl ?_
      refine l_icmp_eq rfl rfl (by unfold rg; omega) (by unfold rg; omega) (fun w113 => ?_) (fun w114 => ?_)
      · exact Rl_weak (C90 U8 hHU8 hFU8 (z94) (by omega)) (And.intro rfl (And.intro rfl (True.intro)))
      · refine l_aload_n rfl rfl ?_
        refine l_aload_n rfl rfl ?_
        refine l_gfi rfl rfl rfl rfl rfl ?_
        refine l_aload_n rfl rfl ?_
        refine l_gfi rfl rfl rfl rfl rfl ?_
        have w115 : (Xi U8 891 11) = (Xi U7 891 11) := (show Xi U8 891 11 = Xi U7 891 11 from by rw [eU8]; exact Xi_ne (by omega))
        rw [w115]
        refine l_callV rfl rfl rfl (t_re_canHold hHU8 (Xi U8 891 12) (Xi U7 891 11) ⟨by omega, by omega⟩ ⟨by omega, by omega⟩ _) ?_
        rintro _ _ ⟨rfl, z116, rfl, w116⟩
        show Rl _ _ _ _ _ [iv z116] _ _
        refine l_if_ne rfl rfl (by unfold rg; omega) (fun w117 => ?_) (fun w118 => ?_)
        · refine l_iconst rfl ?_
          refine l_goto rfl rfl ?_
          refine l_ireturn rfl rfl ?_
          have w119 : Xi U8 876 8 = Xi S 876 8 := (show Xi U8 876 8 = Xi U7 876 8 from by rw [eU8]; exact Xi_ne (by omega)).trans ((show Xi U7 876 8 = Xi S 876 8 from by rw [eU7]; exact Xi_ne (by omega)))
          have w120 : 0 ≤ Xi S 876 8 ∧ Xi S 876 8 ≤ 9 := hH.c _ _
          have w121 : Xi U8 891 11 = Xi U7 891 11 := (show Xi U8 891 11 = Xi U7 891 11 from by rw [eU8]; exact Xi_ne (by omega))
          have w122 : 0 ≤ Xi U7 891 11 ∧ Xi U7 891 11 ≤ 5 := hHU7.c _ _
          have w123 : -1 ≤ Xi U8 891 12 ∧ Xi U8 891 12 ≤ 23 := hHU8.c _ _
          exact ⟨hHU8, hFU8, _, rfl, ⟨by omega, by omega⟩, (by first | assumption | omega), (by first | assumption | omega)⟩
        · exact Rl_weak (C90 U8 hHU8 hFU8 (z94) (by omega)) (And.intro rfl (And.intro rfl (True.intro)))
def md_re_takeObjectOrNew : List rec := [(876, 877, 8, 9), (876, 877, 9, 10), (891, 892, 9, 10), (892, 893, 0, 100000), (893, 894, 0, 100000)]
abbrev Q_re_takeObjectOrNew (S : sS) (from_ : Int) (kind : Int) : pst := fun r S1 => HI S1 ∧ FR md_re_takeObjectOrNew S S1 ∧ (∃ z : Int, r = some (iv z) ∧ (0 ≤ z ∧ z ≤ 1) ∧ (Xi S 891 9 ≤ Xi S1 891 9) ∧ (z = 0 → Xi S1 876 8 ≠ 0) ∧ (z = 1 → mnV S from_ (ruF S from_ (Xi S 876 7)) = -1 → Xi S1 891 9 = Xi S 891 9 + 1 ∧ Xi S1 892 (Xi S 891 9).toNat = from_ ∧ Xi S 5 2 + Xi S1 891 9 ≤ 24) ∧ (z = 1 → mnV S from_ (ruF S from_ (Xi S 876 7)) ≠ -1 → mnV S from_ (ruF S from_ (Xi S 876 7)) / 256 = 2 ∧ Xi S1 891 9 = Xi S 891 9) ∧ (∀ j : Nat, (j : Int) < Xi S 891 9 → Xi S1 892 j = Xi S 892 j))
set_option maxRecDepth 100000 in
theorem t_re_takeObjectOrNew {S : sS} (hH : HI S) (from_ : Int) (kind : Int) (hfrom_ : 0 ≤ from_ ∧ from_ ≤ 5129) (hkind : -1 ≤ kind ∧ kind ≤ 15) (hL : LEX S) (hf : Xi S 877 from_.toNat = 100) (hr : from_ < Xi S 876 7) (d : Nat) : Mt lay0 (d + 3) m_re_takeObjectOrNew [.ref 891, iv from_, iv kind] S (Q_re_takeObjectOrNew S from_ kind) := by
  refine Mt_R rfl rfl ?_
  have hF : FR md_re_takeObjectOrNew S S := FR.rf
  have w1 : 0 ≤ Xi S 5 2 ∧ Xi S 5 2 ≤ 24 := hH.c _ _
  have w2 : 0 ≤ Xi S 876 7 ∧ Xi S 876 7 ≤ 5125 := hH.c _ _
  have w3 : 0 ≤ Xi S 891 9 ∧ Xi S 891 9 ≤ 24 := hH.c _ _
  have C81 : Rl lay0 (d + 2) m_re_takeObjectOrNew 81 [(0, .ref 891), (1, iv from_)] [] S (Q_re_takeObjectOrNew S from_ kind) := by
    refine l_aload_n rfl rfl ?_
    refine l_gfr rfl rfl rfl rfl rfl (hH.r 891 0 876 rfl) ?_
    refine l_iconst rfl ?_
    refine l_iload_n rfl rfl ?_
    refine l_callV rfl rfl rfl (t_to_wrong hH 4 from_ ⟨by omega, by omega⟩ ⟨by omega, by omega⟩ _) ?_
    rintro _ T1 ⟨hHT1, w7, z6, rfl, w6, w4, w5⟩
    have hFT1 : FR md_re_takeObjectOrNew S T1 := FR.tr hF w7 rfl
    show Rl _ _ _ _ _ [iv z6] _ _
    refine l_if_eq rfl rfl (by unfold rg; omega) (fun w8 => ?_) (fun w9 => ?_)
    · refine l_iconst rfl ?_
      refine l_ireturn rfl rfl ?_
      have w10 : 0 ≤ Xi T1 876 8 ∧ Xi T1 876 8 ≤ 9 := hHT1.c _ _
      have w11 : Xi T1 891 9 = Xi S 891 9 := (show Xi T1 891 9 = Xi S 891 9 from w7.x _ _ rfl)
      exact ⟨hHT1, hFT1, _, rfl, ⟨by omega, by omega⟩, (by omega), (by omega), (by omega), (by omega), (by first | exact fun j hj => ((by assumption : ∀ j : Nat, (j : Int) < Xi S 891 9 → Xi T1 892 j = Xi S 892 j ∧ Xi T1 893 j = Xi S 893 j) j hj).1 | exact fun j _ => ((by assumption : FR md_to_wrong S T1).cx 892 rfl j).1 | exact fun j _ => rfl)⟩
    · refine l_iconst rfl ?_
      refine l_goto rfl rfl ?_
      refine l_ireturn rfl rfl ?_
      have w13 : 0 ≤ Xi T1 876 8 ∧ Xi T1 876 8 ≤ 9 := hHT1.c _ _
      have w14 : Xi T1 891 9 = Xi S 891 9 := (show Xi T1 891 9 = Xi S 891 9 from w7.x _ _ rfl)
      exact ⟨hHT1, hFT1, _, rfl, ⟨by omega, by omega⟩, (by omega), (by omega), (by omega), (by omega), (by first | exact fun j hj => ((by assumption : ∀ j : Nat, (j : Int) < Xi S 891 9 → Xi T1 892 j = Xi S 892 j ∧ Xi T1 893 j = Xi S 893 j) j hj).1 | exact fun j _ => ((by assumption : FR md_to_wrong S T1).cx 892 rfl j).1 | exact fun j _ => rfl)⟩
  refine l_aload_n rfl rfl ?_
  refine l_gfr rfl rfl rfl rfl rfl (hH.r 891 0 876 rfl) ?_
  refine l_iload_n rfl rfl ?_
  refine l_callV rfl rfl rfl (t_to_runEnd hH from_ ⟨by omega, by omega⟩ _) ?_
  rintro _ _ ⟨rfl, z24, rfl, w24, w17, w18, w19, w20, w21, w22, w23⟩
  show Rl _ _ _ _ _ [iv z24] _ _
  refine l_istore_n rfl rfl rfl ?_
  refine l_aload_n rfl rfl ?_
  refine l_gfr rfl rfl rfl rfl rfl (hH.r 891 2 1 rfl) ?_
  refine l_aload_n rfl rfl ?_
  refine l_gfr rfl rfl rfl rfl rfl (hH.r 891 0 876 rfl) ?_
  refine l_gfr rfl rfl rfl rfl rfl (hH.r 876 2 879 rfl) ?_
  refine l_iload_n rfl rfl ?_
  refine l_iload_n rfl rfl ?_
  refine l_callV rfl rfl rfl (t_vo_meaning hH 879 5130 from_ z24 rfl ⟨by omega, by omega⟩ ⟨by omega, by omega⟩ ⟨by omega, by omega⟩ (by first | assumption | exact (LEX_FR hF rfl rfl (by assumption : LEX S))) _) ?_
  rintro _ _ ⟨rfl, z28, rfl, w28, w25, w26, w27⟩
  show Rl _ _ _ _ _ [iv z28] _ _
  have hmnz28 := mOK_n (z := z28) (by assumption)
  have hmv : mnV S from_ (ruF S from_ (Xi S 876 7)) = z28 := by have t := mnV_of (S := S) (a := from_) (b := z24) (z := z28) (by assumption) (by assumption); rw [show z24 = ruF S from_ (Xi S 876 7) by omega] at t; exact t
  refine l_istore rfl rfl rfl ?_
  refine l_iload rfl rfl ?_
  refine l_iconst rfl ?_
  refine l_icmp_ne rfl rfl (by unfold rg; omega) (by unfold rg; omega) (fun w29 => ?_) (fun w30 => ?_)
  · refine l_iload rfl rfl ?_
    refine l_bipush rfl rfl ?_
    refine l_ishr8 rfl (by unfold rg; omega) ?_
    refine l_iconst rfl ?_
    refine l_icmp_ne rfl rfl (by unfold rg; omega) (by unfold rg; omega) (fun w32 => ?_) (fun w33 => ?_)
    · exact Rl_weak (C81  ) (And.intro rfl (And.intro rfl (True.intro)))
    · refine l_iload_n rfl rfl ?_
      refine l_iconst rfl ?_
      refine l_icmp_eq rfl rfl (by unfold rg; omega) (by unfold rg; omega) (fun w34 => ?_) (fun w35 => ?_)
      · refine l_iconst rfl ?_
        refine l_goto rfl rfl ?_
        refine l_ireturn rfl rfl ?_
        have w36 : 0 ≤ Xi S 876 8 ∧ Xi S 876 8 ≤ 9 := hH.c _ _
        exact ⟨hH, hF, _, rfl, ⟨by omega, by omega⟩, (by omega), (by omega), (by omega), (by omega), (by first | exact fun j hj => ((by assumption : ∀ j : Nat, (j : Int) < Xi S 891 9 → Xi S 892 j = Xi S 892 j ∧ Xi S 893 j = Xi S 893 j) j hj).1 | exact fun j _ => ((by assumption : FR md_to_wrong S S).cx 892 rfl j).1 | exact fun j _ => rfl)⟩
      · refine l_aload_n rfl rfl ?_
        refine l_gfr rfl rfl rfl rfl rfl (hH.r 891 3 20 rfl) ?_
        refine l_iload rfl rfl ?_
        refine l_sipush rfl rfl ?_
        refine l_iand255 rfl (by unfold rg; omega) ?_
        have w39 := fb2 hH (lx (z := z28) (by assumption) (by omega) (by omega))
        refine l_iload_n rfl rfl ?_
        refine l_callV rfl rfl rfl (t_wo_isA hH (z28 % 256) kind ⟨by omega, by omega⟩ ⟨by omega, by omega⟩ _) ?_
        rintro _ _ ⟨rfl, z41, rfl, w41, w40⟩
        show Rl _ _ _ _ _ [iv z41] _ _
        refine l_if_ne rfl rfl (by unfold rg; omega) (fun w42 => ?_) (fun w43 => ?_)
        · refine l_iconst rfl ?_
          refine l_goto rfl rfl ?_
          refine l_ireturn rfl rfl ?_
          have w44 : 0 ≤ Xi S 876 8 ∧ Xi S 876 8 ≤ 9 := hH.c _ _
          exact ⟨hH, hF, _, rfl, ⟨by omega, by omega⟩, (by omega), (by omega), (by omega), (by omega), (by first | exact fun j hj => ((by assumption : ∀ j : Nat, (j : Int) < Xi S 891 9 → Xi S 892 j = Xi S 892 j ∧ Xi S 893 j = Xi S 893 j) j hj).1 | exact fun j _ => ((by assumption : FR md_to_wrong S S).cx 892 rfl j).1 | exact fun j _ => rfl)⟩
        · exact Rl_weak (C81  ) (And.intro rfl (And.intro rfl (True.intro)))
  · refine l_aload_n rfl rfl ?_
    refine l_iload_n rfl rfl ?_
    refine l_iload_n rfl rfl ?_
    refine l_aload_n rfl rfl ?_
    refine l_gfr rfl rfl rfl rfl rfl (hH.r 891 2 1 rfl) ?_
    refine l_iconst rfl ?_
    refine l_callV rfl rfl rfl (t_vo_countOf hH 2 ⟨by omega, by omega⟩ _) ?_
    rintro _ _ ⟨rfl, z49, rfl, w49, w46, w47, w48⟩
    have w50 : z49 = Xi S 5 2 ∧ 0 ≤ Xi S 5 2 ∧ Xi S 5 2 ≤ 24 := ⟨(w46 (by omega) (by omega)).1, hH.c 5 2⟩
    clear w46 w47 w48
    show Rl _ _ _ _ _ [iv z49, iv z24, iv from_, .ref 891] _ _
    refine l_bipush rfl rfl ?_
    refine l_callV rfl rfl rfl (t_re_takeNew hH from_ z24 z49 24 ⟨by omega, by omega⟩ ⟨by omega, by omega⟩ ⟨by omega, by omega⟩ ⟨by omega, by omega⟩ (by first | assumption | exact (LEX_FR hF rfl rfl (by assumption : LEX S))) _) ?_
    rintro _ T2 ⟨hHT2, w58, z57, rfl, w57, w52, w53, w54, w55, w56⟩
    have hFT2 : FR md_re_takeObjectOrNew S T2 := FR.tr hF w58 rfl
    show Rl _ _ _ _ _ [iv z57] _ _
    refine l_ireturn rfl (retI_z (by omega)) ?_
    have w59 : 0 ≤ Xi T2 876 8 ∧ Xi T2 876 8 ≤ 9 := hHT2.c _ _
    have w60 : 0 ≤ Xi T2 891 9 ∧ Xi T2 891 9 ≤ 24 := hHT2.c _ _
    exact ⟨hHT2, hFT2, _, rfl, ⟨by omega, by omega⟩, (by omega), (by omega), (by omega), (by omega), (by first | exact fun j hj => ((by assumption : ∀ j : Nat, (j : Int) < Xi S 891 9 → Xi T2 892 j = Xi S 892 j ∧ Xi T2 893 j = Xi S 893 j) j hj).1 | exact fun j _ => ((by assumption : FR md_to_wrong S T2).cx 892 rfl j).1 | exact fun j _ => rfl)⟩
def md_re_takeDescription : List rec := [(876, 877, 8, 9), (876, 877, 9, 10), (895, 896, 8, 9), (895, 896, 9, 10), (895, 896, 12, 13), (895, 896, 13, 14), (895, 896, 14, 15), (896, 897, 0, 100000), (897, 898, 0, 100000), (898, 899, 0, 100000)]
abbrev Q_re_takeDescription (S : sS) (from_ : Int) (to : Int) (plur : Int) : pst := fun r S1 => HI S1 ∧ FR md_re_takeDescription S S1 ∧ (∃ z : Int, r = some (iv z) ∧ (0 ≤ z ∧ z ≤ 1) ∧ (z = 1 → MAD S1) ∧ (z = 0 → Xi S1 876 8 ≠ 0))
set_option maxRecDepth 100000 in
theorem t_re_takeDescription {S : sS} (hH : HI S) (from_ : Int) (to : Int) (plur : Int) (hfrom_ : 0 ≤ from_ ∧ from_ ≤ 5140) (hto : 0 ≤ to ∧ to ≤ 5140) (hplur : 0 ≤ plur ∧ plur ≤ 1) (hL : LEX S) (d : Nat) : Mt lay0 (d + 5) m_re_takeDescription [.ref 891, iv from_, iv to, iv plur] S (Q_re_takeDescription S from_ to plur) := by
  refine Mt_R rfl rfl ?_
  have hF : FR md_re_takeDescription S S := FR.rf
  refine l_aload_n rfl rfl ?_
  refine l_gfr rfl rfl rfl rfl rfl (hH.r 891 4 895 rfl) ?_
  refine l_iload_n rfl rfl ?_
  refine l_iload_n rfl rfl ?_
  refine l_iload_n rfl rfl ?_
  refine l_iconst rfl ?_
  refine l_iconst rfl ?_
  refine l_callV rfl rfl rfl (t_me_countReadings hH from_ to plur 0 (-1) ⟨by omega, by omega⟩ ⟨by omega, by omega⟩ ⟨by omega, by omega⟩ ⟨by omega, by omega⟩ ⟨by omega, by omega⟩ (by first | assumption | exact (LEX_FR hF rfl rfl (by assumption : LEX S))) _) ?_
  rintro _ T1 ⟨hHT1, w4, z3, rfl, w3, w1, w2⟩
  have hFT1 : FR md_re_takeDescription S T1 := FR.tr hF w4 rfl
  show Rl _ _ _ _ _ [iv z3] _ _
  refine l_istore rfl rfl rfl ?_
  refine l_iload rfl rfl ?_
  refine l_iconst rfl ?_
  refine l_icmp_eq rfl rfl (by unfold rg; omega) (by unfold rg; omega) (fun w5 => ?_) (fun w6 => ?_)
  · refine l_aload_n rfl rfl ?_
    refine l_gfr rfl rfl rfl rfl rfl (hHT1.r 891 4 895 rfl) ?_
    refine l_iload_n rfl rfl ?_
    refine l_iconst rfl ?_
    have w7 : 0 ≤ Xi T1 895 12 ∧ Xi T1 895 12 ≤ 15 := hHT1.c _ _
    refine l_callV rfl rfl rfl (t_me_keepReading hHT1 from_ 0 ⟨by omega, by omega⟩ ⟨by omega, by omega⟩ (by first | assumption | exact (LEX_FR hFT1 rfl rfl (by assumption : LEX S))) (by first | assumption | omega) (by rw [cpF_FR hFT1 rfl]; omega) _) ?_
    rintro _ T2 ⟨hHT2, w10, rfl, w8⟩
    have hFT2 : FR md_re_takeDescription S T2 := FR.tr hFT1 w10 rfl
    show Rl _ _ _ _ _ [] _ _
    refine l_iconst rfl ?_
    refine l_ireturn rfl rfl ?_
    have w11 : Xi T2 876 8 = Xi S 876 8 := (show Xi T2 876 8 = Xi T1 876 8 from w10.x _ _ rfl).trans ((show Xi T1 876 8 = Xi S 876 8 from w4.x _ _ rfl))
    have w12 : 0 ≤ Xi S 876 8 ∧ Xi S 876 8 ≤ 9 := hH.c _ _
    exact ⟨hHT2, hFT2, _, rfl, ⟨by omega, by omega⟩, (by first | (intro hz; omega) | (intro _; assumption)), (by omega)⟩
  · refine l_aload_n rfl rfl ?_
    refine l_gfr rfl rfl rfl rfl rfl (hHT1.r 891 0 876 rfl) ?_
    refine l_iload rfl rfl ?_
    refine l_if_ne rfl rfl (by unfold rg; omega) (fun w13 => ?_) (fun w14 => ?_)
    · refine l_bipush rfl rfl ?_
      refine l_iload_n rfl rfl ?_
      refine l_callV rfl rfl rfl (t_to_wrong hHT1 7 from_ ⟨by omega, by omega⟩ ⟨by omega, by omega⟩ _) ?_
      rintro _ T3 ⟨hHT3, w18, z17, rfl, w17, w15, w16⟩
      have hFT3 : FR md_re_takeDescription S T3 := FR.tr hFT1 w18 rfl
      show Rl _ _ _ _ _ [iv z17] _ _
      refine l_ireturn rfl (retI_z (by omega)) ?_
      have w19 : 0 ≤ Xi T3 876 8 ∧ Xi T3 876 8 ≤ 9 := hHT3.c _ _
      exact ⟨hHT3, hFT3, _, rfl, ⟨by omega, by omega⟩, (by first | (intro hz; omega) | (intro _; assumption)), (by omega)⟩
    · refine l_iconst rfl ?_
      refine l_goto rfl rfl ?_
      refine l_iload_n rfl rfl ?_
      refine l_callV rfl rfl rfl (t_to_wrong hHT1 4 from_ ⟨by omega, by omega⟩ ⟨by omega, by omega⟩ _) ?_
      rintro _ T4 ⟨hHT4, w23, z22, rfl, w22, w20, w21⟩
      have hFT4 : FR md_re_takeDescription S T4 := FR.tr hFT1 w23 rfl
      show Rl _ _ _ _ _ [iv z22] _ _
      refine l_ireturn rfl (retI_z (by omega)) ?_
      have w24 : 0 ≤ Xi T4 876 8 ∧ Xi T4 876 8 ≤ 9 := hHT4.c _ _
      exact ⟨hHT4, hFT4, _, rfl, ⟨by omega, by omega⟩, (by first | (intro hz; omega) | (intro _; assumption)), (by omega)⟩

