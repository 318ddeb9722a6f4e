/-! THE LAYER: a side's cells at fixed places; a state is what they hold (ints, longs, references by cell and place) -/
abbrev sS : Type := (Nat → Nat → Int32) × (Nat → Nat → Int64) × (Nat → Nat → Option Nat)
def sV (ad : Nat → Nat) (ty : FieldType) (i : Int32) (j : Int64) (r : Option Nat) : Value := match ty with
  | .long => .long j
  | .object _ => va_rf (r.map ad)
  | .array _ => va_rf (r.map ad)
  | _ => .int i
def sO (ad : Nat → Nat) (S : sS) (ci k : Nat) : List Value := (List.range (nT ci)).map (fun j => sV ad (fT ci j) (S.1 k j) (S.2.1 k j) (S.2.2 k j))
/-- what a cell is: (0, class), (1, ints), (2, longs), (3, bytes), (4, booleans), (5, rows of ints), (6, clauses) -/
def sE (lay : Nat → Nat × Nat) (ad ca : Nat → Nat) (S : sS) (k : Nat) : va_E := match lay k with
  | (0, c) => .inr (c, sO ad S c k)
  | (1, n) => .inl (ca 1, n, .inl (S.1 k))
  | (2, n) => .inl (ca 2, n, .inr (.inl (S.2.1 k)))
  | (3, n) => .inl (ca 3, n, .inl (S.1 k))
  | (4, n) => .inl (ca 4, n, .inl (S.1 k))
  | (t, n) => .inl (ca t, n, .inr (.inr (.inr (.inr (fun i => (S.2.2 k i).map ad)))))
def sW (lay : Nat → Nat × Nat) (nc : Nat) (ad ca : Nat → Nat) (S : sS) : va_W := (List.range nc).map (fun k => (ad k, sE lay ad ca S k))
def sT (ca : Nat → Nat) : List (ClassId × FieldType) := [(ca 1, .int), (ca 2, .long), (ca 3, .byte), (ca 4, .boolean), (ca 5, .array .int), (ca 6, .object "RuleSentences$Clause")]
theorem sW_at {lay : Nat → Nat × Nat} {nc : Nat} {ad ca : Nat → Nat} {S : sS} {k : Nat} (h : k < nc) : (sW lay nc ad ca S)[k]? = some (ad k, sE lay ad ca S k) := by
  unfold sW
  rw [List.getElem?_map, List.getElem?_range h]
  rfl
theorem sW_set {lay : Nat → Nat × Nat} {nc : Nat} {ad ca : Nat → Nat} {S S' : sS} {k : Nat} (h : k < nc) {e : va_E} (he : sE lay ad ca S' k = e) (ho : ∀ j, j ≠ k → sE lay ad ca S' j = sE lay ad ca S j) : (sW lay nc ad ca S).set k (ad k, e) = sW lay nc ad ca S' := by
  apply List.ext_getElem?
  intro i
  by_cases hi : i < nc
  · rw [sW_at hi]
    by_cases hk : i = k
    · subst hk
      rw [List.getElem?_set_self (by unfold sW; simpa using h), he]
    · rw [List.getElem?_set_ne (fun q => hk q.symm), sW_at hi, ho i hk]
  · rw [List.getElem?_eq_none (by unfold sW; simpa using hi), List.getElem?_eq_none (by unfold sW; simpa using hi)]
/-- the addresses that a side owns, and all new ones -/
def sA (nc : Nat) (ad : Nat → Nat) (sz : Nat) : Nat → Prop := fun q => (∃ k, k < nc ∧ q = ad k) ∨ sz ≤ q
theorem sA_eq {lay : Nat → Nat × Nat} {nc : Nat} {ad ca : Nat → Nat} {S : sS} {sz : Nat} : va_A (sW lay nc ad ca S) sz = sA nc ad sz := by
  funext q
  apply propext
  constructor
  · rintro (⟨k, e, h⟩ | h)
    · have hk : k < nc := by
        have := (List.getElem?_eq_some_iff.mp h).1
        unfold sW at this
        simpa using this
      rw [sW_at hk] at h
      exact Or.inl ⟨k, hk, (congrArg Prod.fst (Option.some.inj h)).symm⟩
    · exact Or.inr h
  · rintro (⟨k, hk, rfl⟩ | h)
    · exact Or.inl ⟨k, _, sW_at hk⟩
    · exact Or.inr h
def uI (S : sS) (k j : Nat) (v : Int32) : sS := (va_up S.1 k (upd (S.1 k) j v), S.2.1, S.2.2)
def uJ (S : sS) (k j : Nat) (v : Int64) : sS := (S.1, va_up S.2.1 k (vp_updL (S.2.1 k) j v), S.2.2)
def uR (S : sS) (k j : Nat) (v : Option Nat) : sS := (S.1, S.2.1, va_up S.2.2 k (va_up (S.2.2 k) j v))
theorem sE_uI {lay : Nat → Nat × Nat} {ad ca : Nat → Nat} {S : sS} {k j : Nat} {v : Int32} : ∀ i, i ≠ k → sE lay ad ca (uI S k j v) i = sE lay ad ca S i := by
  intro i hi
  have e : va_up S.1 k (upd (S.1 k) j v) i = S.1 i := va_up_ne _ _ hi
  unfold sE sO uI
  simp only [e]
theorem sE_uJ {lay : Nat → Nat × Nat} {ad ca : Nat → Nat} {S : sS} {k j : Nat} {v : Int64} : ∀ i, i ≠ k → sE lay ad ca (uJ S k j v) i = sE lay ad ca S i := by
  intro i hi
  have e : va_up S.2.1 k (vp_updL (S.2.1 k) j v) i = S.2.1 i := va_up_ne _ _ hi
  unfold sE sO uJ
  simp only [e]
theorem sE_uR {lay : Nat → Nat × Nat} {ad ca : Nat → Nat} {S : sS} {k j : Nat} {v : Option Nat} : ∀ i, i ≠ k → sE lay ad ca (uR S k j v) i = sE lay ad ca S i := by
  intro i hi
  have e : va_up S.2.2 k (va_up (S.2.2 k) j v) i = S.2.2 i := va_up_ne _ _ hi
  unfold sE sO uR
  simp only [e]
theorem sO_set {g g' : Nat → Value} {n j : Nat} (h : ∀ i, i ≠ j → g' i = g i) : ((List.range n).map g).set j (g' j) = (List.range n).map g' := by
  apply List.ext_getElem?
  intro i
  by_cases hi : i < n
  · by_cases hj : i = j
    · subst hj
      rw [List.getElem?_set_self (by simpa using hi), List.getElem?_map, List.getElem?_range hi]
      rfl
    · rw [List.getElem?_set_ne (fun q => hj q.symm), List.getElem?_map, List.getElem?_map, List.getElem?_range hi]
      show some (g i) = some (g' i)
      rw [h i hj]
  · rw [List.getElem?_eq_none (by simpa using hi), List.getElem?_eq_none (by simpa using hi)]


