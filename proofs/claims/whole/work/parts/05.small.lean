/-! THE SMALL MACHINE: bytecode over the layer's states; a reference is a cell's number -/
def trV (ad : Nat → Nat) (v : Value) : Value := match v with
  | .ref k => .ref (ad k)
  | v => v
def trL (ad : Nat → Nat) (q : Nat × Value) : Nat × Value := (q.1, trV ad q.2)
def rv (r : Option Nat) : Value := match r with
  | some a => .ref a
  | none => .null
theorem trV_rv {ad : Nat → Nat} {r : Option Nat} : trV ad (rv r) = va_rf (r.map ad) := by cases r <;> rfl
theorem trV_cat {ad : Nat → Nat} {v : Value} : (trV ad v).category = v.category := by cases v <;> rfl
/-- a field's value -/
def sv (ty : FieldType) (i : Int32) (j : Int64) (r : Option Nat) : Value := match ty with
  | .long => .long j
  | .object _ => rv r
  | .array _ => rv r
  | _ => .int i
theorem sv_sV {ad : Nat → Nat} {ty : FieldType} {i : Int32} {j : Int64} {r : Option Nat} : sV ad ty i j r = trV ad (sv ty i j r) := by
  cases ty <;> first | rfl | exact trV_rv.symm
/-- a local -/
def lgt : List (Nat × Value) → Nat → Option Value
  | [], _ => none
  | (k, v) :: r, i => bif Nat.beq k i then some v else lgt r i
theorem lgt_at {ad : Nat → Nat} {ls : Array Slot} {nL : Nat} : ∀ {lv : List (Nat × Value)} {i : Nat} {v : Value}, lgt lv i = some v → lv_has ls nL (lv.map (trL ad)) → ls[i]? = some (.val (trV ad v)) := by
  intro lv
  induction lv with
  | nil => intro i v h; simp [lgt] at h
  | cons q r ih =>
    intro i v h hl
    obtain ⟨k, x⟩ := q
    unfold lgt at h
    cases hk : Nat.beq k i with
    | true =>
      rw [hk] at h
      have e : x = v := Option.some.inj h
      have e2 : k = i := Nat.eq_of_beq_eq_true hk
      subst e; subst e2
      exact hl.2.2 (k, trV ad x) (by simp [trL])
    | false =>
      rw [hk] at h
      exact ih h ⟨hl.1, hl.2.1, fun q hq => hl.2.2 q (List.mem_cons_of_mem _ hq)⟩
def st1 (lv : List (Nat × Value)) (i : Nat) (v : Value) : List (Nat × Value) := (i, v) :: lv.filter (fun q => !(q.1 == i) && !(q.1 + 1 == i && q.2.category == 2))
def st2 (lv : List (Nat × Value)) (i : Nat) (v : Value) : List (Nat × Value) := (i, v) :: lv.filter (fun q => !(q.1 == i) && (!(q.1 == i + 1) && !(q.1 + 1 == i && q.2.category == 2)))
theorem st1_tr {ad : Nat → Nat} {lv : List (Nat × Value)} {i : Nat} {v : Value} : (st1 lv i v).map (trL ad) = (i, trV ad v) :: (lv.map (trL ad)).filter (fun q => !(q.1 == i) && !(q.1 + 1 == i && q.2.category == 2)) := by
  unfold st1
  rw [List.map_cons, List.filter_map]
  congr 2
  apply List.filter_congr
  intro q _
  simp [trL, trV_cat]
theorem st2_tr {ad : Nat → Nat} {lv : List (Nat × Value)} {i : Nat} {v : Value} : (st2 lv i v).map (trL ad) = (i, trV ad v) :: (lv.map (trL ad)).filter (fun q => !(q.1 == i) && (!(q.1 == i + 1) && !(q.1 + 1 == i && q.2.category == 2))) := by
  unfold st2
  rw [List.map_cons, List.filter_map]
  congr 2
  apply List.filter_congr
  intro q _
  simp [trL, trV_cat]
def lk : List (Nat × Instr) → Nat → Option Instr
  | [], _ => none
  | (k, i) :: r, pc => bif Nat.beq k pc then some i else lk r pc
theorem lk_mem : ∀ {l : List (Nat × Instr)} {pc : Nat} {i : Instr}, lk l pc = some i → (pc, i) ∈ l := by
  intro l
  induction l with
  | nil => intro pc i h; simp [lk] at h
  | cons q r ih =>
    intro pc i h
    obtain ⟨k, x⟩ := q
    unfold lk at h
    cases hk : Nat.beq k pc with
    | true =>
      rw [hk] at h
      have e : x = i := Option.some.inj h
      have e2 : k = pc := Nat.eq_of_beq_eq_true hk
      subst e; subst e2
      exact List.mem_cons_self
    | false =>
      rw [hk] at h
      exact List.mem_cons_of_mem _ (ih h)
def ilen : Instr → Nat
  | .bipush _ | .iload _ | .istore _ | .lload _ | .lstore _ | .aload _ | .astore _ | .ldc _ => 2
  | .sipush _ | .ldc_w _ | .ldc2_w _ | .iinc _ _ | .ifCond _ _ | .if_icmp _ _ | .goto _ | .getfield _ | .putfield _ | .invokevirtual _ | .invokestatic _ | .invokespecial _ => 3
  | .tableswitch _ _ _ _ | .lookupswitch _ _ => 0
  | _ => 1
/-- the rows of a method's code are its bytes' -/
def dOk (b : ByteArray) (c : List (Nat × Instr)) : Bool := c.all (fun x => match decode b x.1 with
  | .ok (i, n) => decide (i = x.2) && (Nat.beq (ilen i) 0 || Nat.beq n (ilen i))
  | _ => false)
theorem dOk_at {b : ByteArray} {c : List (Nat × Instr)} (h : dOk b c = true) {pc : Nat} {i : Instr} (hi : lk c pc = some i) : ∃ n, decode b pc = .ok (i, n) ∧ (ilen i = 0 ∨ n = ilen i) := by
  have h1 := List.all_eq_true.mp h _ (lk_mem hi)
  dsimp only at h1
  cases hd : decode b pc with
  | error x => rw [hd] at h1; simp at h1
  | ok q =>
    obtain ⟨j, n⟩ := q
    rw [hd] at h1
    simp only [Bool.and_eq_true, Bool.or_eq_true, decide_eq_true_eq] at h1
    obtain ⟨rfl, h2⟩ := h1
    refine ⟨n, rfl, h2.elim (fun z => Or.inl (Nat.eq_of_beq_eq_true z)) (fun z => Or.inr (Nat.eq_of_beq_eq_true z))⟩
theorem dOk_n {b : ByteArray} {c : List (Nat × Instr)} (h : dOk b c = true) {pc : Nat} {i : Instr} (hi : lk c pc = some i) {k : Nat} (hk : ilen i = k + 1) : decode b pc = .ok (i, k + 1) := by
  obtain ⟨n, h1, h2 | h2⟩ := dOk_at h hi
  · rw [hk] at h2; cases h2
  · rw [h1, h2, hk]
def jm (pc : Nat) (off : Int) : Option Nat := match (pc : Int) + off with
  | .ofNat t => some t
  | .negSucc _ => none
theorem jm_at {pc t : Nat} {off : Int} (h : jm pc off = some t) : (pc : Int) + off = (t : Int) := by
  unfold jm at h
  cases hz : (pc : Int) + off with
  | ofNat k => rw [hz] at h; rw [Option.some.inj h]; rfl
  | negSucc k => rw [hz] at h; cases h
def cnd (c : Jvm.ClassFile.Cond) (x y : Int32) : Bool := match c with
  | .eq => decide (x = y)
  | .ne => decide (¬ x = y)
  | .lt => decide (x < y)
  | .ge => decide (y ≤ x)
  | .gt => decide (y < x)
  | .le => decide (x ≤ y)
