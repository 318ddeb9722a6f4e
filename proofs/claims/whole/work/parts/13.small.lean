/-! THE SMALL MACHINE: bytecode over the layer's states; a reference is a cell's number -/
def trV (ad : Nat → Nat) (v : Value) : Value := match v with
  | .ref k => .ref (ad k)
  | v => v
def trL (ad : Nat → Nat) (q : Nat × Value) : Nat × Value := (q.1, trV ad q.2)
def rv (r : Option Nat) : Value := match r with
  | some a => .ref a
  | none => .null
theorem trV_rv {ad : Nat → Nat} {r : Option Nat} : trV ad (rv r) = va_rf (r.map ad) := by cases r <;> rfl
theorem trV_cat {ad : Nat → Nat} {v : Value} : (trV ad v).category = v.category := by cases v <;> rfl
/-- a field's value -/
def sv (ty : FieldType) (i : Int32) (j : Int64) (r : Option Nat) : Value := match ty with
  | .long => .long j
  | .object _ => rv r
  | .array _ => rv r
  | _ => .int i
theorem sv_sV {ad : Nat → Nat} {ty : FieldType} {i : Int32} {j : Int64} {r : Option Nat} : sV ad ty i j r = trV ad (sv ty i j r) := by
  cases ty <;> first | rfl | exact trV_rv.symm
/-- a local -/
def lgt : List (Nat × Value) → Nat → Option Value
  | [], _ => none
  | (k, v) :: r, i => bif Nat.beq k i then some v else lgt r i
theorem lgt_at {ad : Nat → Nat} {ls : Array Slot} {nL : Nat} : ∀ {lv : List (Nat × Value)} {i : Nat} {v : Value}, lgt lv i = some v → lv_has ls nL (lv.map (trL ad)) → ls[i]? = some (.val (trV ad v)) := by
  intro lv
  induction lv with
  | nil => intro i v h; simp [lgt] at h
  | cons q r ih =>
    intro i v h hl
    obtain ⟨k, x⟩ := q
    unfold lgt at h
    cases hk : Nat.beq k i with
    | true =>
      rw [hk] at h
      have e : x = v := Option.some.inj h
      have e2 : k = i := Nat.eq_of_beq_eq_true hk
      subst e; subst e2
      exact hl.2.2 (k, trV ad x) (by simp [trL])
    | false =>
      rw [hk] at h
      exact ih h ⟨hl.1, hl.2.1, fun q hq => hl.2.2 q (List.mem_cons_of_mem _ hq)⟩
def st1 (lv : List (Nat × Value)) (i : Nat) (v : Value) : List (Nat × Value) := (i, v) :: lv.filter (fun q => !(q.1 == i) && !(q.1 + 1 == i && q.2.category == 2))
def st2 (lv : List (Nat × Value)) (i : Nat) (v : Value) : List (Nat × Value) := (i, v) :: lv.filter (fun q => !(q.1 == i) && (!(q.1 == i + 1) && !(q.1 + 1 == i && q.2.category == 2)))
theorem st1_tr {ad : Nat → Nat} {lv : List (Nat × Value)} {i : Nat} {v : Value} : (st1 lv i v).map (trL ad) = (i, trV ad v) :: (lv.map (trL ad)).filter (fun q => !(q.1 == i) && !(q.1 + 1 == i && q.2.category == 2)) := by
  unfold st1
  rw [List.map_cons, List.filter_map]
  congr 2
  apply List.filter_congr
  intro q _
  simp [trL, trV_cat]
theorem st2_tr {ad : Nat → Nat} {lv : List (Nat × Value)} {i : Nat} {v : Value} : (st2 lv i v).map (trL ad) = (i, trV ad v) :: (lv.map (trL ad)).filter (fun q => !(q.1 == i) && (!(q.1 == i + 1) && !(q.1 + 1 == i && q.2.category == 2))) := by
  unfold st2
  rw [List.map_cons, List.filter_map]
  congr 2
  apply List.filter_congr
  intro q _
  simp [trL, trV_cat]
def jm (pc : Nat) (off : Int) : Option Nat := match (pc : Int) + off with
  | .ofNat t => some t
  | .negSucc _ => none
theorem jm_at {pc t : Nat} {off : Int} (h : jm pc off = some t) : (pc : Int) + off = (t : Int) := by
  unfold jm at h
  cases hz : (pc : Int) + off with
  | ofNat k => rw [hz] at h; rw [Option.some.inj h]; rfl
  | negSucc k => rw [hz] at h; cases h
def cnd (c : Jvm.ClassFile.Cond) (x y : Int32) : Bool := match c with
  | .eq => decide (x = y)
  | .ne => decide (¬ x = y)
  | .lt => decide (x < y)
  | .ge => decide (y ≤ x)
  | .gt => decide (y < x)
  | .le => decide (x ≤ y)


