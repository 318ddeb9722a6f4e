/-! rows of code, by their places -/
def lk : List (Nat × Instr) → Nat → Option Instr
  | [], _ => none
  | (k, i) :: r, pc => bif Nat.beq k pc then some i else lk r pc
theorem lk_mem : ∀ {l : List (Nat × Instr)} {pc : Nat} {i : Instr}, lk l pc = some i → (pc, i) ∈ l := by
  intro l
  induction l with
  | nil => intro pc i h; simp [lk] at h
  | cons q r ih =>
    intro pc i h
    obtain ⟨k, x⟩ := q
    unfold lk at h
    cases hk : Nat.beq k pc with
    | true =>
      rw [hk] at h
      have e : x = i := Option.some.inj h
      have e2 : k = pc := Nat.eq_of_beq_eq_true hk
      subst e; subst e2
      exact List.mem_cons_self
    | false =>
      rw [hk] at h
      exact List.mem_cons_of_mem _ (ih h)
def ilen : Instr → Nat
  | .bipush _ | .iload _ | .istore _ | .lload _ | .lstore _ | .aload _ | .astore _ | .ldc _ => 2
  | .sipush _ | .ldc_w _ | .ldc2_w _ | .iinc _ _ | .ifCond _ _ | .if_icmp _ _ | .goto _ | .getstatic _ | .getfield _ | .putfield _ | .invokevirtual _ | .invokestatic _ | .invokespecial _ => 3
  | .tableswitch _ _ _ _ | .lookupswitch _ _ => 0
  | _ => 1
/-- the rows of a method's code are its bytes' -/
def dOk (b : ByteArray) (c : List (Nat × Instr)) : Bool := c.all (fun x => match decode b x.1 with
  | .ok (i, n) => decide (i = x.2) && (Nat.beq (ilen i) 0 || Nat.beq n (ilen i))
  | _ => false)
theorem dOk_at {b : ByteArray} {c : List (Nat × Instr)} (h : dOk b c = true) {pc : Nat} {i : Instr} (hi : lk c pc = some i) : ∃ n, decode b pc = .ok (i, n) ∧ (ilen i = 0 ∨ n = ilen i) := by
  have h1 := List.all_eq_true.mp h _ (lk_mem hi)
  dsimp only at h1
  cases hd : decode b pc with
  | error x => rw [hd] at h1; simp at h1
  | ok q =>
    obtain ⟨j, n⟩ := q
    rw [hd] at h1
    simp only [Bool.and_eq_true, Bool.or_eq_true, decide_eq_true_eq] at h1
    obtain ⟨rfl, h2⟩ := h1
    refine ⟨n, rfl, h2.elim (fun z => Or.inl (Nat.eq_of_beq_eq_true z)) (fun z => Or.inr (Nat.eq_of_beq_eq_true z))⟩
theorem dOk_n {b : ByteArray} {c : List (Nat × Instr)} (h : dOk b c = true) {pc : Nat} {i : Instr} (hi : lk c pc = some i) {k : Nat} (hk : ilen i = k + 1) : decode b pc = .ok (i, k + 1) := by
  obtain ⟨n, h1, h2 | h2⟩ := dOk_at h hi
  · rw [hk] at h2; cases h2
  · rw [h1, h2, hk]


