/-! SAFETY: told sentences: kinds, values -/
/-- the names told new have one to three words -/
def NW (S : sS) : Prop := ∀ i : Nat, (i : Int) < Xi S 891 9 → 1 ≤ Xi S 893 i - Xi S 892 i ∧ Xi S 893 i - Xi S 892 i ≤ 3
theorem NW_FR {l : List rec} {S T : sS} (h : FR l S T) (e : (kdis l [(892, 894)] && !(mdf l 891 9)) = true) (hn : NW S) : NW T := by
  simp only [Bool.and_eq_true, Bool.not_eq_true'] at e
  have k := h.smk e.1
  intro i hi
  rw [h.x 891 9 e.2] at hi
  rw [k.x 892 rfl, k.x 893 rfl]
  exact hn i hi
theorem nw_0 {S : sS} (h : Xi S 891 9 = 0) : NW S := fun i hi => by omega
theorem nw_s {S T : sS} {a b : Int} (hn : NW S) (h1 : Xi T 891 9 = Xi S 891 9 + 1) (h2 : Xi T 892 (Xi S 891 9).toNat = a) (h3 : Xi T 893 (Xi S 891 9).toNat = b) (h4 : 1 ≤ b - a) (h5 : b - a ≤ 3) (h0 : 0 ≤ Xi S 891 9) (hk : ∀ j : Nat, (j : Int) < Xi S 891 9 → Xi T 892 j = Xi S 892 j ∧ Xi T 893 j = Xi S 893 j) : NW T := fun i hi => by
  by_cases e : (i : Int) < Xi S 891 9
  · rw [(hk i e).1, (hk i e).2]; exact hn i e
  · rw [show i = (Xi S 891 9).toNat by omega, h2, h3]; omega
theorem cap01 {S : sS} {v : Int} (hv : v = 0 ∨ v = 1) (h : Xi S 5 v.toNat + 1 ≤ 16 - 8 * v) : Xi S 5 v.toNat + 1 ≤ (lh 5 v.toNat).2 := by
  rcases hv with rfl | rfl
  · exact (by omega : Xi S 5 (0 : Int).toNat + 1 ≤ 16)
  · exact (by omega : Xi S 5 (1 : Int).toNat + 1 ≤ 8)
theorem c01 {S : sS} {v : Int} : (v = 0 → Xi S 5 v.toNat = Xi S 5 0) ∧ (v = 1 → Xi S 5 v.toNat = Xi S 5 1) := ⟨fun e => by rw [e]; rfl, fun e => by rw [e]; rfl⟩
/-! the values of all TYPES -/
theorem valn_add {S : sS} {t : Int} : ∀ (n : Nat) (i c : Int), valn S t n i c = c + valn S t n i 0 := by
  intro n
  induction n with
  | zero => intro i c; show c = c + 0; omega
  | succ n ih =>
    intro i c
    show valn S t n (i + 1) (c + _) = c + valn S t n (i + 1) (0 + _)
    rw [ih (i + 1) (c + _), ih (i + 1) (0 + _)]
    omega
theorem val_sum {S : sS} (h : ∀ j, 0 ≤ Xi S 8 j ∧ Xi S 8 j ≤ 7) : ∀ (n : Nat) (i : Int), valn S 0 n i 0 + valn S 1 n i 0 + valn S 2 n i 0 + valn S 3 n i 0 + valn S 4 n i 0 + valn S 5 n i 0 + valn S 6 n i 0 + valn S 7 n i 0 = n := by
  intro n
  induction n with
  | zero => intro i; rfl
  | succ n ih =>
    intro i
    have t := ih (i + 1)
    have hb := h i.toNat
    have u : ∀ t : Int, valn S t (n + 1) i 0 = (0 + (if Xi S 8 i.toNat = t then 1 else 0)) + valn S t n (i + 1) 0 := fun t => by
      show valn S t n (i + 1) (0 + _) = _
      exact valn_add _ _ _
    rw [u 0, u 1, u 2, u 3, u 4, u 5, u 6, u 7]
    have e : Xi S 8 i.toNat = 0 ∨ Xi S 8 i.toNat = 1 ∨ Xi S 8 i.toNat = 2 ∨ Xi S 8 i.toNat = 3 ∨ Xi S 8 i.toNat = 4 ∨ Xi S 8 i.toNat = 5 ∨ Xi S 8 i.toNat = 6 ∨ Xi S 8 i.toNat = 7 := by omega
    rcases e with e | e | e | e | e | e | e | e <;> (rw [e]; simp only [reduceIte, Int.reduceEq]; omega)
theorem val_64 {S : sS} {t n : Int} (hH : HI S) (hv : VAL S) (h0 : 0 ≤ t) (h7 : t ≤ 7) (hn : vals S t + n ≤ 8) : Xi S 5 4 + n ≤ 64 := by
  have a := val_sum (S := S) (fun j => hH.c 8 j) (Xi S 5 4).toNat 0
  have c4 : 0 ≤ Xi S 5 4 ∧ Xi S 5 4 ≤ 64 := hH.c _ _
  have b0 := hv 0
  have b1 := hv 1
  have b2 := hv 2
  have b3 := hv 3
  have b4 := hv 4
  have b5 := hv 5
  have b6 := hv 6
  have b7 := hv 7
  unfold vals at *
  have e : t = 0 ∨ t = 1 ∨ t = 2 ∨ t = 3 ∨ t = 4 ∨ t = 5 ∨ t = 6 ∨ t = 7 := by omega
  rcases e with rfl | rfl | rfl | rfl | rfl | rfl | rfl | rfl <;> omega
theorem valn_app {S : sS} {t : Int} : ∀ (n : Nat) (i c : Int), valn S t (n + 1) i c = valn S t n i c + (if Xi S 8 (i + n).toNat = t then 1 else 0) := by
  intro n
  induction n with
  | zero => intro i c; show c + _ = c + _; rw [show i + ((0 : Nat) : Int) = i by omega]
  | succ n ih =>
    intro i c
    show valn S t (n + 1) (i + 1) _ = valn S t n (i + 1) _ + _
    rw [ih (i + 1) _, show i + 1 + (n : Int) = i + ((n + 1 : Nat) : Int) by omega]
/-- a value more -/
theorem vals_app {S T U : sS} {z ty t : Int} (h0 : 0 ≤ Xi S 5 4) (h8 : ∀ j, Xi T 8 j = Xi S 8 j) (hc : Xi T 5 4 = Xi S 5 4 + 1) (e : U = uI T 8 z.toNat (Int32.ofInt ty)) (hz : z = Xi S 5 4) (hr : rg ty) : vals U t = vals S t + (if ty = t then 1 else 0) := by
  have x5 : Xi U 5 4 = Xi S 5 4 + 1 := by rw [e, Xi_ne (by omega)]; exact hc
  unfold vals
  rw [x5, show (Xi S 5 4 + 1).toNat = (Xi S 5 4).toNat + 1 by omega, valn_app]
  have a : ∀ (n : Nat) (i c : Int), 0 ≤ i → i + n ≤ Xi S 5 4 → valn U t n i c = valn S t n i c := by
    intro n
    induction n with
    | zero => intro i c _ _; rfl
    | succ n ih =>
      intro i c h1 h2
      show valn U t n (i + 1) (c + (if Xi U 8 i.toNat = t then 1 else 0)) = valn S t n (i + 1) (c + (if Xi S 8 i.toNat = t then 1 else 0))
      rw [show Xi U 8 i.toNat = Xi S 8 i.toNat by rw [e, Xi_ne (by omega)]; exact h8 _]
      exact ih (i + 1) _ (by omega) (by omega)
  rw [a _ 0 0 (by omega) (by omega), show (0 : Int) + ((Xi S 5 4).toNat : Int) = z by omega, e, Xi_same hr]

