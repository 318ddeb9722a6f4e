/-! SAFETY, the core: bodies and methods that end well from some fuel on -/
abbrev pst : Type := Option Value → sS → Prop
def iv (z : Int) : Value := .int (Int32.ofInt z)
def jw (z : Int) : Value := .long (Int64.ofInt z)
def Xi (S : sS) (k j : Nat) : Int := (S.1 k j).toInt
def Xj (S : sS) (k j : Nat) : Int := (S.2.1 k j).toInt
def rg (z : Int) : Prop := -2147483648 ≤ z ∧ z < 2147483648
def rgL (z : Int) : Prop := -9223372036854775808 ≤ z ∧ z < 9223372036854775808
theorem Xi_iv {S : sS} {k j : Nat} : Value.int (S.1 k j) = iv (Xi S k j) := by unfold iv Xi; rw [Int32.ofInt_toInt]
theorem Xj_jw {S : sS} {k j : Nat} : Value.long (S.2.1 k j) = jw (Xj S k j) := by unfold jw Xj; rw [Int64.ofInt_toInt]
theorem toI {z : Int} (h : rg z) : (Int32.ofInt z).toInt = z := Int32.toInt_ofInt_of_le h.1 h.2
theorem toJ {z : Int} (h : rgL z) : (Int64.ofInt z).toInt = z := Int64.toInt_ofInt_of_le h.1 h.2
theorem Xi_rg {S : sS} {k j : Nat} : rg (Xi S k j) := ⟨Int32.le_toInt _, Int32.toInt_lt _⟩
theorem Xj_rg {S : sS} {k j : Nat} : rgL (Xj S k j) := ⟨Int64.le_toInt _, Int64.toInt_lt _⟩
def Mt (lay : Nat → Nat × Nat) (d : Nat) (q : mT) (av : List Value) (S : sS) (Q : pst) : Prop := ∃ (N : Nat) (r : Option Value) (S1 : sS), (∀ G, N ≤ G → evd lay G d q av S = some (r, S1)) ∧ Q r S1
def Rn (lay : Nat → Nat × Nat) (d : Nat) (q : mT) (pc : Nat) (lv : List (Nat × Value)) (st : List Value) (S : sS) (Q : pst) : Prop := ∃ (N : Nat) (r : Option Value) (S1 : sS), (∀ F G, N ≤ F → N ≤ G → run lay (fLs q.2.2.2.2.1) (cLs q.2.2.2.2.1) (kLs q.2.2.2.2.1) q.2.2.1 q.2.2.2.1 (evd lay G d) q.2.2.2.2.2 F pc lv st S = some (r, S1)) ∧ Q r S1
def ag (lv L : List (Nat × Value)) : Prop := ∀ j v, lgt L j = some v → lgt lv j = some v
def Rl (lay : Nat → Nat × Nat) (d : Nat) (q : mT) (pc : Nat) (L : List (Nat × Value)) (st : List Value) (S : sS) (Q : pst) : Prop := ∀ lv, ag lv L → Rn lay d q pc lv st S Q
def pl : Instr → Bool
  | .invokevirtual _ => false
  | .invokestatic _ => false
  | .ireturn => false
  | .lreturn => false
  | .areturn => false
  | .return_ => false
  | _ => true
/-- locals in order, a new one in its place -/
def sL : List (Nat × Value) → Nat → Value → List (Nat × Value)
  | [], k, v => [(k, v)]
  | (i, u) :: r, k, v => bif Nat.beq i k then (k, v) :: r else bif Nat.blt k i then (k, v) :: (i, u) :: r else (i, u) :: sL r k v
/-- L1 stands in L -/
def inL : List (Nat × Value) → List (Nat × Value) → Prop
  | [], _ => True
  | (i, u) :: r, L => lgt L i = some u ∧ inL r L
theorem inL_at : ∀ {L1 L : List (Nat × Value)}, inL L1 L → ∀ j v, lgt L1 j = some v → lgt L j = some v := by
  intro L1
  induction L1 with
  | nil => intro L _ j v h; simp [lgt] at h
  | cons q r ih =>
    intro L hi j v h
    obtain ⟨i, u⟩ := q
    unfold lgt at h
    cases hb : Nat.beq i j with
    | true =>
      rw [hb] at h
      have e : u = v := Option.some.inj h
      have e2 : i = j := Nat.eq_of_beq_eq_true hb
      subst e; subst e2
      exact hi.1
    | false => rw [hb] at h; exact ih hi.2 j v h
section SAFE
variable {lay : Nat → Nat × Nat} {d pc : Nat} {q : mT} {L : List (Nat × Value)} {st : List Value} {S : sS} {Q : pst}
theorem Rl_weak {L1 : List (Nat × Value)} (h : Rl lay d q pc L1 st S Q) (hi : inL L1 L) : Rl lay d q pc L st S Q := fun lv ha => h lv (fun j v hj => ha j v (inL_at hi j v hj))
theorem Rl_s {i : Instr} {pc1 : Nat} {L1 : List (Nat × Value)} {st1 : List Value} {S1 : sS} (hc : lk q.2.2.2.2.2 pc = some i) (hp : pl i = true)
    (hs : ∀ lv, ag lv L → ∃ lv1, stp lay (fLs q.2.2.2.2.1) (cLs q.2.2.2.2.1) q.2.2.1 i pc lv st S = some (pc1, lv1, st1, S1) ∧ ag lv1 L1)
    (h : Rl lay d q pc1 L1 st1 S1 Q) : Rl lay d q pc L st S Q := by
  intro lv ha
  obtain ⟨lv1, h1, h2⟩ := hs lv ha
  obtain ⟨N, r, S2, hr, hq⟩ := h lv1 h2
  refine ⟨N + 1, r, S2, fun F G hF hG => ?_, hq⟩
  obtain ⟨F, rfl⟩ : ∃ F1, F = F1 + 1 := ⟨F - 1, by omega⟩
  have e := hr F G (by omega) (by omega)
  unfold run
  rw [hc]
  cases i <;> first | (cases hp; done) | (simp only [h1]; exact e)
theorem lgt_sL : ∀ {L : List (Nat × Value)} {k : Nat} {v : Value} (j : Nat) (u : Value), lgt (sL L k v) j = some u → (j = k ∧ u = v) ∨ (j ≠ k ∧ lgt L j = some u) := by
  intro L
  induction L with
  | nil =>
    intro k v j u h
    simp only [sL, lgt] at h
    cases hb : Nat.beq k j with
    | true => rw [hb] at h; exact Or.inl ⟨(Nat.eq_of_beq_eq_true hb).symm, (Option.some.inj h).symm⟩
    | false => rw [hb] at h; cases h
  | cons p r ih =>
    intro k v j u h
    obtain ⟨i, x⟩ := p
    unfold sL at h
    cases h1 : Nat.beq i k with
    | true =>
      rw [h1] at h
      have e : i = k := Nat.eq_of_beq_eq_true h1
      subst e
      simp only [cond_true, lgt] at h
      cases hb : Nat.beq i j with
      | true => rw [hb] at h; exact Or.inl ⟨(Nat.eq_of_beq_eq_true hb).symm, (Option.some.inj h).symm⟩
      | false =>
        rw [hb] at h
        refine Or.inr ⟨fun z => ?_, ?_⟩
        · subst z; simp at hb
        · unfold lgt; rw [hb]; exact h
    | false =>
      rw [h1] at h
      have hne : i ≠ k := fun z => by subst z; simp at h1
      cases h2 : Nat.blt k i with
      | true =>
        rw [h2] at h
        simp only [cond_false, cond_true] at h
        unfold lgt at h
        cases hb : Nat.beq k j with
        | true => rw [hb] at h; exact Or.inl ⟨(Nat.eq_of_beq_eq_true hb).symm, (Option.some.inj h).symm⟩
        | false =>
          rw [hb] at h
          exact Or.inr ⟨fun z => by subst z; simp at hb, h⟩
      | false =>
        rw [h2] at h
        simp only [cond_false] at h
        unfold lgt at h
        cases hb : Nat.beq i j with
        | true =>
          rw [hb] at h
          have e : i = j := Nat.eq_of_beq_eq_true hb
          subst e
          exact Or.inr ⟨hne, by unfold lgt; rw [hb]; exact h⟩
        | false =>
          rw [hb] at h
          rcases ih j u h with z | ⟨z1, z2⟩
          · exact Or.inl z
          · exact Or.inr ⟨z1, by unfold lgt; rw [hb]; exact z2⟩
/-- no long just before k -/
def nw (L : List (Nat × Value)) (k : Nat) : Bool := match k with
  | 0 => true
  | k + 1 => match lgt L k with
    | some v => Nat.beq v.category 1
    | none => true
def dr (L : List (Nat × Value)) (k : Nat) : List (Nat × Value) := L.filter (fun q => !(Nat.beq q.1 k))
theorem lgt_fil {L : List (Nat × Value)} {f : Nat × Value → Bool} : ∀ {j : Nat} {u : Value}, lgt L j = some u → f (j, u) = true → lgt (L.filter f) j = some u := by
  induction L with
  | nil => intro j u h; simp [lgt] at h
  | cons p r ih =>
    intro j u h hf
    obtain ⟨i, x⟩ := p
    unfold lgt at h
    cases hb : Nat.beq i j with
    | true =>
      rw [hb] at h
      have e : x = u := Option.some.inj h
      have e2 : i = j := Nat.eq_of_beq_eq_true hb
      subst e; subst e2
      rw [List.filter_cons_of_pos hf]
      unfold lgt
      rw [hb]
      rfl
    | false =>
      rw [hb] at h
      by_cases hp : f (i, x) = true
      · rw [List.filter_cons_of_pos hp]
        unfold lgt
        rw [hb]
        exact ih h hf
      · rw [List.filter_cons_of_neg hp]
        exact ih h hf
theorem ag_st1 {lv : List (Nat × Value)} {k : Nat} {v : Value} (ha : ag lv L) (hn : nw L k = true) : ag (st1 lv k v) (sL L k v) := by
  intro j u hj
  rcases lgt_sL j u hj with ⟨rfl, rfl⟩ | ⟨hne, h⟩
  · unfold st1 lgt
    simp
  · have h1 := ha j u h
    unfold st1 lgt
    have hb : Nat.beq k j = false := by
      cases hb : Nat.beq k j with
      | false => rfl
      | true => exact absurd (Nat.eq_of_beq_eq_true hb).symm hne
    rw [hb]
    refine lgt_fil h1 ?_
    have e1 : (j == k) = false := by simpa using hne
    simp only [e1, Bool.not_false, Bool.true_and]
    cases k with
    | zero => simp
    | succ k =>
      by_cases hk : j = k
      · subst hk
        have hn : (match lgt L j with | some v => Nat.beq v.category 1 | none => true) = true := hn
        rw [h] at hn
        have hc : u.category = 1 := Nat.eq_of_beq_eq_true hn
        simp [hc]
      · simp [hk]
theorem ag_st2 {lv : List (Nat × Value)} {k : Nat} {v : Value} (ha : ag lv L) (hn : nw L k = true) (h1 : lgt L (k + 1) = none) : ag (st2 lv k v) (sL L k v) := by
  intro j u hj
  rcases lgt_sL j u hj with ⟨rfl, rfl⟩ | ⟨hne, h⟩
  · unfold st2 lgt
    simp
  · have h2 := ha j u h
    have hne1 : j ≠ k + 1 := fun z => by rw [z, h1] at h; cases h
    unfold st2 lgt
    have hb : Nat.beq k j = false := by
      cases hb : Nat.beq k j with
      | false => rfl
      | true => exact absurd (Nat.eq_of_beq_eq_true hb).symm hne
    rw [hb]
    refine lgt_fil h2 ?_
    have e1 : (j == k) = false := by simpa using hne
    have e2 : (j == k + 1) = false := by simpa using hne1
    simp only [e1, e2, Bool.not_false, Bool.true_and]
    cases k with
    | zero => simp
    | succ k =>
      by_cases hk : j = k
      · subst hk
        have hn : (match lgt L j with | some v => Nat.beq v.category 1 | none => true) = true := hn
        rw [h] at hn
        have hc : u.category = 1 := Nat.eq_of_beq_eq_true hn
        simp [hc]
      · simp [hk]
theorem l_iload {k : Nat} {x : Int} (hc : lk q.2.2.2.2.2 pc = some (.iload k)) (hl : lgt L k = some (iv x)) (h : Rl lay d q (pc + 2) L (iv x :: st) S Q) : Rl lay d q pc L st S Q :=
  Rl_s hc rfl (fun lv ha => ⟨lv, by show (match lgt lv k with | some (Value.int x) => some (pc + 2, lv, Value.int x :: st, S) | _ => (none : Option cfg)) = _; rw [ha _ _ hl]; rfl, ha⟩) h
theorem l_iload_n {k : _} {x : Int} (hc : lk q.2.2.2.2.2 pc = some (.iload_n k)) (hl : lgt L k = some (iv x)) (h : Rl lay d q (pc + 1) L (iv x :: st) S Q) : Rl lay d q pc L st S Q :=
  Rl_s hc rfl (fun lv ha => ⟨lv, by show (match lgt lv k with | some (Value.int x) => some (pc + 1, lv, Value.int x :: st, S) | _ => (none : Option cfg)) = _; rw [ha _ _ hl]; rfl, ha⟩) h
theorem l_lload {k : Nat} {x : Int} (hc : lk q.2.2.2.2.2 pc = some (.lload k)) (hl : lgt L k = some (jw x)) (h : Rl lay d q (pc + 2) L (jw x :: st) S Q) : Rl lay d q pc L st S Q :=
  Rl_s hc rfl (fun lv ha => ⟨lv, by show (match lgt lv k with | some (Value.long x) => some (pc + 2, lv, Value.long x :: st, S) | _ => (none : Option cfg)) = _; rw [ha _ _ hl]; rfl, ha⟩) h
theorem l_lload_n {k : _} {x : Int} (hc : lk q.2.2.2.2.2 pc = some (.lload_n k)) (hl : lgt L k = some (jw x)) (h : Rl lay d q (pc + 1) L (jw x :: st) S Q) : Rl lay d q pc L st S Q :=
  Rl_s hc rfl (fun lv ha => ⟨lv, by show (match lgt lv k with | some (Value.long x) => some (pc + 1, lv, Value.long x :: st, S) | _ => (none : Option cfg)) = _; rw [ha _ _ hl]; rfl, ha⟩) h
theorem l_aload {k : Nat} {x : Nat} (hc : lk q.2.2.2.2.2 pc = some (.aload k)) (hl : lgt L k = some (.ref x)) (h : Rl lay d q (pc + 2) L (.ref x :: st) S Q) : Rl lay d q pc L st S Q :=
  Rl_s hc rfl (fun lv ha => ⟨lv, by show (match lgt lv k with | some (Value.ref x) => some (pc + 2, lv, Value.ref x :: st, S) | _ => (none : Option cfg)) = _; rw [ha _ _ hl], ha⟩) h
theorem l_aload_n {k : _} {x : Nat} (hc : lk q.2.2.2.2.2 pc = some (.aload_n k)) (hl : lgt L k = some (.ref x)) (h : Rl lay d q (pc + 1) L (.ref x :: st) S Q) : Rl lay d q pc L st S Q :=
  Rl_s hc rfl (fun lv ha => ⟨lv, by show (match lgt lv k with | some (Value.ref x) => some (pc + 1, lv, Value.ref x :: st, S) | _ => (none : Option cfg)) = _; rw [ha _ _ hl], ha⟩) h
theorem l_istore {k : Nat} {x : Int} (hc : lk q.2.2.2.2.2 pc = some (.istore k)) (hk : Nat.blt k q.2.2.1 = true) (hn : nw L k = true) (h : Rl lay d q (pc + 2) (sL L k (iv x)) st S Q) : Rl lay d q pc L (iv x :: st) S Q :=
  Rl_s hc rfl (fun lv ha => ⟨st1 lv k (iv x), by show (bif Nat.blt k q.2.2.1 then some (pc + 2, st1 lv k (iv x), st, S) else none) = _; rw [hk]; rfl, ag_st1 ha hn⟩) h
theorem l_istore_n {k : _} {x : Int} (hc : lk q.2.2.2.2.2 pc = some (.istore_n k)) (hk : Nat.blt k q.2.2.1 = true) (hn : nw L k = true) (h : Rl lay d q (pc + 1) (sL L k (iv x)) st S Q) : Rl lay d q pc L (iv x :: st) S Q :=
  Rl_s hc rfl (fun lv ha => ⟨st1 lv k (iv x), by show (bif Nat.blt k q.2.2.1 then some (pc + 1, st1 lv k (iv x), st, S) else none) = _; rw [hk]; rfl, ag_st1 ha hn⟩) h
theorem l_astore {k : Nat} {x : Nat} (hc : lk q.2.2.2.2.2 pc = some (.astore k)) (hk : Nat.blt k q.2.2.1 = true) (hn : nw L k = true) (h : Rl lay d q (pc + 2) (sL L k (Value.ref x)) st S Q) : Rl lay d q pc L (Value.ref x :: st) S Q :=
  Rl_s hc rfl (fun lv ha => ⟨st1 lv k (Value.ref x), by show (bif Nat.blt k q.2.2.1 then some (pc + 2, st1 lv k (Value.ref x), st, S) else none) = _; rw [hk]; rfl, ag_st1 ha hn⟩) h
theorem l_astore_n {k : _} {x : Nat} (hc : lk q.2.2.2.2.2 pc = some (.astore_n k)) (hk : Nat.blt k q.2.2.1 = true) (hn : nw L k = true) (h : Rl lay d q (pc + 1) (sL L k (Value.ref x)) st S Q) : Rl lay d q pc L (Value.ref x :: st) S Q :=
  Rl_s hc rfl (fun lv ha => ⟨st1 lv k (Value.ref x), by show (bif Nat.blt k q.2.2.1 then some (pc + 1, st1 lv k (Value.ref x), st, S) else none) = _; rw [hk]; rfl, ag_st1 ha hn⟩) h
theorem l_lstore {k : Nat} {x : Int} (hc : lk q.2.2.2.2.2 pc = some (.lstore k)) (hk : Nat.blt (k + 1) q.2.2.1 = true) (hn : nw L k = true) (h1 : lgt L (k + 1) = none) (h : Rl lay d q (pc + 2) (sL L k (jw x)) st S Q) : Rl lay d q pc L (jw x :: st) S Q :=
  Rl_s hc rfl (fun lv ha => ⟨st2 lv k (jw x), by show (bif Nat.blt (k + 1) q.2.2.1 then some (pc + 2, st2 lv k (jw x), st, S) else none) = _; rw [hk]; rfl, ag_st2 ha hn h1⟩) h
theorem l_lstore_n {k : _} {x : Int} (hc : lk q.2.2.2.2.2 pc = some (.lstore_n k)) (hk : Nat.blt ((k : Nat) + 1) q.2.2.1 = true) (hn : nw L k = true) (h1 : lgt L ((k : Nat) + 1) = none) (h : Rl lay d q (pc + 1) (sL L k (jw x)) st S Q) : Rl lay d q pc L (jw x :: st) S Q :=
  Rl_s hc rfl (fun lv ha => ⟨st2 lv k (jw x), by show (bif Nat.blt ((k : Nat) + 1) q.2.2.1 then some (pc + 1, st2 lv k (jw x), st, S) else none) = _; rw [hk]; rfl, ag_st2 ha hn h1⟩) h
theorem l_iinc {k : Nat} {n x : Int} (hc : lk q.2.2.2.2.2 pc = some (.iinc k n)) (hl : lgt L k = some (iv x)) (hk : Nat.blt k q.2.2.1 = true) (hn : nw L k = true) (h : Rl lay d q (pc + 3) (sL L k (iv (x + n))) st S Q) : Rl lay d q pc L st S Q :=
  Rl_s hc rfl (fun lv ha => ⟨st1 lv k (iv (x + n)), by
    show (match lgt lv k with | some (Value.int x) => bif Nat.blt k q.2.2.1 then some (pc + 3, st1 lv k (Value.int (x + Int32.ofInt n)), st, S) else none | _ => (none : Option cfg)) = _
    rw [ha _ _ hl, hk]
    show some (pc + 3, st1 lv k (Value.int (Int32.ofInt x + Int32.ofInt n)), st, S) = _
    rw [← Int32.ofInt_add]; rfl, ag_st1 ha hn⟩) h
theorem l_iconst {n : Int} (hc : lk q.2.2.2.2.2 pc = some (.iconst n)) (h : Rl lay d q (pc + 1) L (iv n :: st) S Q) : Rl lay d q pc L (st) S Q :=
  Rl_s hc rfl (fun lv ha => ⟨lv, by rfl, ha⟩) h
theorem l_lconst {n : _} {z : Int} (hc : lk q.2.2.2.2.2 pc = some (.lconst n)) (hz : ((n : Nat) : Int) = z) (h : Rl lay d q (pc + 1) L (jw z :: st) S Q) : Rl lay d q pc L (st) S Q :=
  Rl_s hc rfl (fun lv ha => ⟨lv, by subst hz; show some (pc + 1, lv, Value.long (Int64.ofNat (n : Nat)) :: st, S) = _; rw [← Int64.ofInt_eq_ofNat]; rfl, ha⟩) h
theorem l_bipush {n : Int} (hc : lk q.2.2.2.2.2 pc = some (.bipush n)) (hn : (Int8.ofInt n).toInt32 = Int32.ofInt n) (h : Rl lay d q (pc + 2) L (iv n :: st) S Q) : Rl lay d q pc L (st) S Q :=
  Rl_s hc rfl (fun lv ha => ⟨lv, by show some (pc + 2, lv, Value.int (Int8.ofInt n).toInt32 :: st, S) = _; rw [hn]; rfl, ha⟩) h
theorem l_sipush {n : Int} (hc : lk q.2.2.2.2.2 pc = some (.sipush n)) (hn : (Int16.ofInt n).toInt32 = Int32.ofInt n) (h : Rl lay d q (pc + 3) L (iv n :: st) S Q) : Rl lay d q pc L (st) S Q :=
  Rl_s hc rfl (fun lv ha => ⟨lv, by show some (pc + 3, lv, Value.int (Int16.ofInt n).toInt32 :: st, S) = _; rw [hn]; rfl, ha⟩) h
theorem l_iadd {x y : Int} (hc : lk q.2.2.2.2.2 pc = some (.iadd)) (h : Rl lay d q (pc + 1) L (iv (x + y) :: st) S Q) : Rl lay d q pc L (iv y :: iv x :: st) S Q :=
  Rl_s hc rfl (fun lv ha => ⟨lv, by show some (pc + 1, lv, Value.int (Int32.ofInt x + Int32.ofInt y) :: st, S) = _; rw [← Int32.ofInt_add]; rfl, ha⟩) h
theorem l_isub {x y : Int} (hc : lk q.2.2.2.2.2 pc = some (.isub)) (h : Rl lay d q (pc + 1) L (iv (x - y) :: st) S Q) : Rl lay d q pc L (iv y :: iv x :: st) S Q :=
  Rl_s hc rfl (fun lv ha => ⟨lv, by show some (pc + 1, lv, Value.int (Int32.ofInt x - Int32.ofInt y) :: st, S) = _; rw [← Int32.ofInt_sub]; rfl, ha⟩) h
theorem l_imul {x y : Int} (hc : lk q.2.2.2.2.2 pc = some (.imul)) (h : Rl lay d q (pc + 1) L (iv (x * y) :: st) S Q) : Rl lay d q pc L (iv y :: iv x :: st) S Q :=
  Rl_s hc rfl (fun lv ha => ⟨lv, by show some (pc + 1, lv, Value.int (Int32.ofInt x * Int32.ofInt y) :: st, S) = _; rw [← Int32.ofInt_mul]; rfl, ha⟩) h
theorem l_ladd {x y : Int} (hc : lk q.2.2.2.2.2 pc = some (.ladd)) (h : Rl lay d q (pc + 1) L (jw (x + y) :: st) S Q) : Rl lay d q pc L (jw y :: jw x :: st) S Q :=
  Rl_s hc rfl (fun lv ha => ⟨lv, by show some (pc + 1, lv, Value.long (Int64.ofInt x + Int64.ofInt y) :: st, S) = _; rw [← Int64.ofInt_add]; rfl, ha⟩) h
theorem l_lsub {x y : Int} (hc : lk q.2.2.2.2.2 pc = some (.lsub)) (h : Rl lay d q (pc + 1) L (jw (x - y) :: st) S Q) : Rl lay d q pc L (jw y :: jw x :: st) S Q :=
  Rl_s hc rfl (fun lv ha => ⟨lv, by show some (pc + 1, lv, Value.long (Int64.ofInt x - Int64.ofInt y) :: st, S) = _; rw [← Int64.ofInt_sub]; rfl, ha⟩) h
theorem l_lmul {x y : Int} (hc : lk q.2.2.2.2.2 pc = some (.lmul)) (h : Rl lay d q (pc + 1) L (jw (x * y) :: st) S Q) : Rl lay d q pc L (jw y :: jw x :: st) S Q :=
  Rl_s hc rfl (fun lv ha => ⟨lv, by show some (pc + 1, lv, Value.long (Int64.ofInt x * Int64.ofInt y) :: st, S) = _; rw [← Int64.ofInt_mul]; rfl, ha⟩) h
end SAFE


