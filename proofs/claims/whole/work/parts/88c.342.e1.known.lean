section
/-! the machine of known cells: a cell that isn't listed is unknown. What it answers, the small machine answers from every state that has the known cells -/
abbrev aRK : Type := Nat × aC
abbrev aTK : Type := Tr aRK 10
def dfK (a : aV) : Bool := match a with
  | .inl (.inl z) => (match z with | .ofNat n => Nat.beq n 0 | .negSucc _ => false)
  | _ => false
noncomputable def insLK (j : Nat) (v : aV) (l : aC) : Option aC := List.rec (some [(j, v)]) (fun q t ih => Prod.casesOn q (fun a x => bif Nat.beq a j then some ((a, v) :: t) else Option.casesOn ih none (fun t1 => some ((a, x) :: t1)))) l
theorem insLK_cons (j : Nat) (v : aV) (a : Nat) (x : aV) (t : aC) : insLK j v ((a, x) :: t) = bif Nat.beq a j then some ((a, v) :: t) else Option.casesOn (insLK j v t) none (fun t1 => some ((a, x) :: t1)) := rfl
theorem insLK_ok {j : Nat} {v : aV} : ∀ (l l1 : aC), insLK j v l = some l1 → lkV l1 j = some v ∧ ∀ i, i ≠ j → lkV l1 i = lkV l i := by
  intro l
  induction l with
  | nil =>
    intro l1 h
    have h' : some [(j, v)] = some l1 := h
    cases h'
    exact ⟨by rw [lkV_cons, Nat.beq_refl]; rfl, fun i hi => by rw [lkV_cons, beq_ne (fun z => hi z.symm)]; rfl⟩
  | cons q t ih =>
    intro l1 h
    obtain ⟨a, x⟩ := q
    rw [insLK_cons] at h
    cases h2 : Nat.beq a j with
    | true =>
      rw [h2] at h
      have h' : (a, v) :: t = l1 := Option.some.inj h
      subst h'
      have e := Nat.eq_of_beq_eq_true h2
      refine ⟨by rw [lkV_cons, h2]; rfl, fun i hi => ?_⟩
      rw [lkV_cons, lkV_cons, beq_ne (fun z => hi (z.symm.trans e))]
      rfl
    | false =>
      rw [h2] at h
      cases hi : insLK j v t with
      | none => rw [hi] at h; exact nomatch h
      | some t1 =>
        rw [hi] at h
        have h' : (a, x) :: t1 = l1 := Option.some.inj h
        subst h'
        obtain ⟨g1, g2⟩ := ih t1 hi
        refine ⟨by rw [lkV_cons, h2]; exact g1, fun i hne => ?_⟩
        rw [lkV_cons, lkV_cons, g2 i hne]
noncomputable def insZK (j : Nat) (v : aV) (z : Nat) (l : aC) : Option aRK := match insLK j v l with
  | some l1 => some (z, l1)
  | none => none
noncomputable def insK (j : Nat) (v : aV) (q : aRK) : Option aRK := Prod.casesOn q (fun z l => match lkV l j with
  | some _ => insZK j v z l
  | none => bif dfK v then (bif Nat.beq j z then frcN (Nat.succ z) (fun z1 => some (z1, l)) else bif Nat.blt j z then some (z, l) else insZK j v z l) else insZK j v z l)
noncomputable def lkK (q : aRK) (j : Nat) : Option aV := match lkV q.2 j with
  | some v => some v
  | none => bif Nat.blt j q.1 then some (.inl (.inl 0)) else none
theorem dfK_e {v : aV} (h : dfK v = true) : v = .inl (.inl 0) := by
  cases v with
  | inr w => cases h
  | inl i =>
    cases i with
    | inr q => cases h
    | inl z =>
      cases z with
      | negSucc n => cases h
      | ofNat n =>
        have e : n = 0 := Nat.eq_of_beq_eq_true h
        rw [e]
        rfl
theorem insZK_ok {j z : Nat} {v : aV} {l : aC} {q1 : aRK} (h : insZK j v z l = some q1) : lkK q1 j = some v ∧ ∀ i, i ≠ j → lkK q1 i = lkK (z, l) i := by
  unfold insZK at h
  cases hi : insLK j v l with
  | none => rw [hi] at h; exact nomatch h
  | some l1 =>
    rw [hi] at h
    have h' : (z, l1) = q1 := Option.some.inj h
    subst h'
    obtain ⟨g1, g2⟩ := insLK_ok l l1 hi
    refine ⟨?_, fun i hne => ?_⟩
    · unfold lkK
      rw [show ((z, l1) : aRK).2 = l1 from rfl, g1]
    · unfold lkK
      rw [show ((z, l1) : aRK).2 = l1 from rfl, show ((z, l) : aRK).2 = l from rfl, g2 i hne]
theorem insK_ok {j : Nat} {v : aV} {q q1 : aRK} (h : insK j v q = some q1) : lkK q1 j = some v ∧ ∀ i, i ≠ j → lkK q1 i = lkK q i := by
  obtain ⟨z, l⟩ := q
  have h : (match lkV l j with
    | some _ => insZK j v z l
    | none => bif dfK v then (bif Nat.beq j z then frcN (Nat.succ z) (fun z1 => some ((z1, l) : aRK)) else bif Nat.blt j z then some (z, l) else insZK j v z l) else insZK j v z l) = some q1 := h
  cases hl : lkV l j with
  | some y =>
    rw [hl] at h
    exact insZK_ok h
  | none =>
    rw [hl] at h
    have h : (bif dfK v then (bif Nat.beq j z then frcN (Nat.succ z) (fun z1 => some ((z1, l) : aRK)) else bif Nat.blt j z then some (z, l) else insZK j v z l) else insZK j v z l) = some q1 := h
    cases hd : dfK v with
    | false => rw [hd] at h; exact insZK_ok h
    | true =>
      rw [hd] at h
      have ev := dfK_e hd
      have h : (bif Nat.beq j z then frcN (Nat.succ z) (fun z1 => some ((z1, l) : aRK)) else bif Nat.blt j z then some (z, l) else insZK j v z l) = some q1 := h
      cases h1 : Nat.beq j z with
      | true =>
        rw [h1] at h
        have h : frcN (Nat.succ z) (fun z1 => some ((z1, l) : aRK)) = some q1 := h
        rw [frcN_eq] at h
        have h' : (Nat.succ z, l) = q1 := Option.some.inj h
        subst h'
        have e := Nat.eq_of_beq_eq_true h1
        refine ⟨?_, fun i hne => ?_⟩
        · unfold lkK
          rw [show ((Nat.succ z, l) : aRK).2 = l from rfl, hl, ev]
          have b : Nat.blt j (Nat.succ z) = true := Nat.ble_eq_true_of_le (by omega)
          show (bif Nat.blt j (Nat.succ z) then (some (.inl (.inl 0)) : Option aV) else none) = _
          rw [b]
          rfl
        · unfold lkK
          show (match lkV l i with | some v => some v | none => bif Nat.blt i (Nat.succ z) then some (.inl (.inl 0)) else none) = (match lkV l i with | some v => some v | none => bif Nat.blt i z then some (.inl (.inl 0)) else none)
          have b : Nat.blt i (Nat.succ z) = Nat.blt i z := by
            cases hb : Nat.blt i z with
            | true => exact Nat.ble_eq_true_of_le (by have := Nat.le_of_ble_eq_true hb; omega)
            | false =>
              cases hc : Nat.blt i (Nat.succ z) with
              | false => rfl
              | true =>
                have := Nat.le_of_ble_eq_true hc
                have u : Nat.blt i z = true := Nat.ble_eq_true_of_le (by omega)
                rw [u] at hb
                cases hb
          rw [b]
      | false =>
        rw [h1] at h
        have h : (bif Nat.blt j z then some ((z, l) : aRK) else insZK j v z l) = some q1 := h
        cases h2 : Nat.blt j z with
        | false => rw [h2] at h; exact insZK_ok h
        | true =>
          rw [h2] at h
          have h' : ((z, l) : aRK) = q1 := Option.some.inj h
          subst h'
          refine ⟨?_, fun _ _ => rfl⟩
          unfold lkK
          rw [show ((z, l) : aRK).2 = l from rfl, hl, ev]
          show (bif Nat.blt j z then (some (.inl (.inl 0)) : Option aV) else none) = _
          rw [h2]
          rfl
noncomputable def lookK (T : aTK) (k j : Nat) : Option aV := bif Nat.blt k 1024 then lkK (rdT 10 T k) j else none
def gCK (o : Option aV) (S : sS) (k j : Nat) : Prop := match o with
  | none => True
  | some (.inl i) => gI i (S.1 k j)
  | some (.inr (.inl v)) => gJ v (S.2.1 k j)
  | some (.inr (.inr r)) => S.2.2 k j = r
def gSK (T : aTK) (S : sS) : Prop := ∀ k j, gCK (lookK T k j) S k j
noncomputable def putTK (T : aTK) (k j : Nat) (v : aV) : Option aTK := bif Nat.blt k 1024 then upT 10 T k (insK j v) else none
theorem putT_okK {T T1 : aTK} {k j : Nat} {v : aV} {S S1 : sS} (hS : gSK T S) (h : putTK T k j v = some T1) (hoth : ∀ k' j', ¬ (k' = k ∧ j' = j) → S1.1 k' j' = S.1 k' j' ∧ S1.2.1 k' j' = S.2.1 k' j' ∧ S1.2.2 k' j' = S.2.2 k' j') (hv : gCK (some v) S1 k j) : gSK T1 S1 := by
  unfold putTK at h
  cases hb : Nat.blt k 1024 with
  | false => rw [hb] at h; exact nomatch h
  | true =>
    rw [hb] at h
    have hk : k < 1024 := Nat.le_of_ble_eq_true hb
    obtain ⟨g1, g2⟩ := rdT_upT 10 T T1 k (insK j v) hk h
    obtain ⟨q1, q2⟩ := insK_ok g1
    intro k' j'
    by_cases e : k' = k ∧ j' = j
    · obtain ⟨rfl, rfl⟩ := e
      have hl : lookK T1 k' j' = some v := by unfold lookK; rw [hb]; exact q1
      rw [hl]; exact hv
    · have hlook : lookK T1 k' j' = lookK T k' j' := by
        unfold lookK
        by_cases hk' : k' < 1024
        · by_cases ek : k' = k
          · subst ek
            rw [q2 j' (fun z => e ⟨rfl, z⟩)]
          · rw [g2 k' hk' ek]
        · have : Nat.blt k' 1024 = false := by
            cases hz : Nat.blt k' 1024 with
            | false => rfl
            | true => exact absurd (Nat.le_of_ble_eq_true hz) hk'
          rw [this]; rfl
      rw [hlook]
      obtain ⟨o1, o2, o3⟩ := hoth k' j' e
      have hold := hS k' j'
      unfold gCK at hold ⊢
      rw [o1, o2, o3]
      exact hold
theorem putI_okK {T T1 : aTK} {k j : Nat} {i : aI} {x : Int32} {S : sS} (hS : gSK T S) (h : putTK T k j (.inl i) = some T1) (hx : gI i x) : gSK T1 (uI S k j x) := by
  refine putT_okK hS h (fun k' j' e => ⟨?_, rfl, rfl⟩) ?_
  · show va_up S.1 k (upd (S.1 k) j x) k' j' = S.1 k' j'
    by_cases ek : k' = k
    · subst ek
      rw [va_up_self]
      exact if_neg (fun z => e ⟨rfl, z⟩)
    · rw [va_up_ne _ _ ek]
  · have e1 : (uI S k j x).1 k j = x := by
      show va_up S.1 k (upd (S.1 k) j x) k j = x
      rw [va_up_self]
      exact if_pos rfl
    show gI i ((uI S k j x).1 k j)
    rw [e1]; exact hx
theorem putJ_okK {T T1 : aTK} {k j : Nat} {i : Option Int} {x : Int64} {S : sS} (hS : gSK T S) (h : putTK T k j (.inr (.inl i)) = some T1) (hx : gJ i x) : gSK T1 (uJ S k j x) := by
  refine putT_okK hS h (fun k' j' e => ⟨rfl, ?_, rfl⟩) ?_
  · show va_up S.2.1 k (vp_updL (S.2.1 k) j x) k' j' = S.2.1 k' j'
    by_cases ek : k' = k
    · subst ek
      rw [va_up_self]
      exact if_neg (fun z => e ⟨rfl, z⟩)
    · rw [va_up_ne _ _ ek]
  · have e1 : (uJ S k j x).2.1 k j = x := by
      show va_up S.2.1 k (vp_updL (S.2.1 k) j x) k j = x
      rw [va_up_self]
      exact if_pos rfl
    show gJ i ((uJ S k j x).2.1 k j)
    rw [e1]; exact hx
theorem putR_okK {T T1 : aTK} {k j : Nat} {r : Option Nat} {S : sS} (hS : gSK T S) (h : putTK T k j (.inr (.inr r)) = some T1) : gSK T1 (uR S k j r) := by
  refine putT_okK hS h (fun k' j' e => ⟨rfl, rfl, ?_⟩) ?_
  · show va_up S.2.2 k (va_up (S.2.2 k) j r) k' j' = S.2.2 k' j'
    by_cases ek : k' = k
    · subst ek
      rw [va_up_self]
      exact if_neg (fun z => e ⟨rfl, z⟩)
    · rw [va_up_ne _ _ ek]
  · show (uR S k j r).2.2 k j = r
    show va_up S.2.2 k (va_up (S.2.2 k) j r) k j = r
    rw [va_up_self]
    exact if_pos rfl
noncomputable def rdIK (T : aTK) (k j : Nat) : Option aI := match lookK T k j with
  | some (.inl i) => some i
  | _ => none
noncomputable def rdJK (T : aTK) (k j : Nat) : Option (Option Int) := match lookK T k j with
  | some (.inr (.inl v)) => some v
  | _ => none
noncomputable def rdRK (T : aTK) (k j : Nat) : Option (Option Nat) := match lookK T k j with
  | some (.inr (.inr r)) => some r
  | _ => none
theorem rdI_okK {T : aTK} {S : sS} {k j : Nat} {i : aI} (hS : gSK T S) (h : rdIK T k j = some i) : gI i (S.1 k j) := by
  have g := hS k j
  unfold rdIK at h
  split at h
  · next e => rw [e] at g; cases h; exact g
  · cases h
theorem rdJ_okK {T : aTK} {S : sS} {k j : Nat} {i : Option Int} (hS : gSK T S) (h : rdJK T k j = some i) : gJ i (S.2.1 k j) := by
  have g := hS k j
  unfold rdJK at h
  split at h
  · next e => rw [e] at g; cases h; exact g
  · cases h
theorem rdR_okK {T : aTK} {S : sS} {k j : Nat} {r : Option Nat} (hS : gSK T S) (h : rdRK T k j = some r) : S.2.2 k j = r := by
  have g := hS k j
  unfold rdRK at h
  split at h
  · next e => rw [e] at g; cases h; exact g
  · cases h

abbrev acfgK : Type := Nat × List (Nat × aV) × List aV × aTK
noncomputable def rdFK (ty : FieldType) (T : aTK) (k j : Nat) : Option aV := match ty with
  | .long => Option.casesOn (rdJK T k j) none (fun v => some (.inr (.inl v)))
  | .object _ => Option.casesOn (rdRK T k j) none (fun v => some (.inr (.inr v)))
  | .array _ => Option.casesOn (rdRK T k j) none (fun v => some (.inr (.inr v)))
  | _ => Option.casesOn (rdIK T k j) none (fun v => some (.inl v))
theorem rdF_okK {ty : FieldType} {T : aTK} {S : sS} {k j : Nat} {v : aV} (hS : gSK T S) (h : rdFK ty T k j = some v) : gV v (sv ty (S.1 k j) (S.2.1 k j) (S.2.2 k j)) := by
  cases ty with
  | long => obtain ⟨x, h1, h2⟩ := ocase h; cases h2; exact ⟨_, rfl, rdJ_okK hS h1⟩
  | object c => obtain ⟨x, h1, h2⟩ := ocase h; cases h2; exact congrArg rv (rdR_okK hS h1)
  | array c => obtain ⟨x, h1, h2⟩ := ocase h; cases h2; exact congrArg rv (rdR_okK hS h1)
  | _ => obtain ⟨x, h1, h2⟩ := ocase h; cases h2; exact ⟨_, rfl, rdI_okK hS h1⟩
noncomputable def wrFK (ty : FieldType) (T : aTK) (k j : Nat) (v : aV) : Option aTK := match ty, v with
  | .int, .inl i => putTK T k j (.inl i)
  | .boolean, .inl (.inl z) => bif decide (z = 0 ∨ z = 1) then putTK T k j (.inl (.inl z)) else none
  | .array _, .inr (.inr r) => putTK T k j (.inr (.inr r))
  | _, _ => none
theorem wrF_okK {ci j : Nat} {T T1 : aTK} {S : sS} {k : Nat} {v : aV} {w : Value} (hS : gSK T S) (hw : gV v w) (h : wrFK (fT ci j) T k j v = some T1) : ∃ S1, pF S ci k j w = some S1 ∧ gSK T1 S1 := by
  unfold wrFK at h
  split at h
  · next e =>
    obtain ⟨x, rfl, hx⟩ := hw
    refine ⟨_, ?_, putI_okK hS h hx⟩
    unfold pF
    rw [e]
  · next z e =>
    obtain ⟨x, rfl, hx⟩ := hw
    obtain ⟨hb, h⟩ := bif_s h
    have hz := of_decide_eq_true hb
    have hx2 : x.toInt = z := hx
    have h01 : x = 0 ∨ x = 1 := by
      rcases hz with z | z
      · exact Or.inl (Int32.toInt_inj.mp (hx2.trans (z.trans rfl)))
      · exact Or.inr (Int32.toInt_inj.mp (hx2.trans (z.trans rfl)))
    refine ⟨_, ?_, putI_okK hS h hx⟩
    unfold pF
    rw [e]
    dsimp only
    rw [show decide (x = 0 ∨ x = 1) = true from decide_eq_true h01]
    rfl
  · next t r e =>
    have hw : w = rv r := hw
    subst hw
    refine ⟨_, ?_, putR_okK hS h⟩
    unfold pF
    rw [e]
    cases r <;> rfl
  · cases h
noncomputable def nxK (pc : Nat) (lv : List (Nat × aV)) (st : List aV) (T : aTK) : Option acfgK := frcN pc (fun pc => some (pc, lv, st, T))
theorem nx_eqK {pc : Nat} {lv : List (Nat × aV)} {st : List aV} {T : aTK} : nxK pc lv st T = some (pc, lv, st, T) := frcN_eq (k := fun pc => some (pc, lv, st, T))
noncomputable def puK (a : aI) (pc : Nat) (lv : List (Nat × aV)) (st : List aV) (T : aTK) : Option acfgK := frcA a (fun a => nxK pc lv (.inl a :: st) T)
theorem pu_eqK {a : aI} {pc : Nat} {lv : List (Nat × aV)} {st : List aV} {T : aTK} : puK a pc lv st T = some (pc, lv, .inl a :: st, T) := by
  unfold puK
  rw [frcA_eq, nx_eqK]
noncomputable def pjK (a : Option Int) (pc : Nat) (lv : List (Nat × aV)) (st : List aV) (T : aTK) : Option acfgK := frcJ a (fun a => nxK pc lv (.inr (.inl a) :: st) T)
theorem pj_eqK {a : Option Int} {pc : Nat} {lv : List (Nat × aV)} {st : List aV} {T : aTK} : pjK a pc lv st T = some (pc, lv, .inr (.inl a) :: st, T) := by
  unfold pjK
  rw [frcJ_eq, nx_eqK]
noncomputable def astpK (lay : Nat → Nat × Nat) (fL : Nat → Option (Nat × Nat × Bool)) (cL : Nat → Option Value) (nL : Nat) (i : Instr) : Option (Nat → List (Nat × aV) → List aV → aTK → Option acfgK) := match i with
  | .iconst n => some (fun pc lv st T => puK (.inl (Int32.ofInt n).toInt) (pc + 1) lv st T)
  | .bipush n => some (fun pc lv st T => puK (.inl ((Int8.ofInt n).toInt32).toInt) (pc + 2) lv st T)
  | .sipush n => some (fun pc lv st T => puK (.inl ((Int16.ofInt n).toInt32).toInt) (pc + 3) lv st T)
  | .lconst n => some (fun pc lv st T => pjK (some (Int64.ofNat (n : Nat)).toInt) (pc + 1) lv st T)
  | .iload_n k => some (fun pc lv st T => match algt lv k with
    | some (.inl i) => nxK (pc + 1) lv (.inl i :: st) T
    | _ => none)
  | .iload k => some (fun pc lv st T => match algt lv k with
    | some (.inl i) => nxK (pc + 2) lv (.inl i :: st) T
    | _ => none)
  | .lload_n k => some (fun pc lv st T => match algt lv k with
    | some (.inr (.inl i)) => nxK (pc + 1) lv (.inr (.inl i) :: st) T
    | _ => none)
  | .lload k => some (fun pc lv st T => match algt lv k with
    | some (.inr (.inl i)) => nxK (pc + 2) lv (.inr (.inl i) :: st) T
    | _ => none)
  | .aload_n k => some (fun pc lv st T => match algt lv k with
    | some (.inr (.inr (some i))) => nxK (pc + 1) lv (.inr (.inr (some i)) :: st) T
    | _ => none)
  | .aload k => some (fun pc lv st T => match algt lv k with
    | some (.inr (.inr (some i))) => nxK (pc + 2) lv (.inr (.inr (some i)) :: st) T
    | _ => none)
  | .istore_n k => bif Nat.blt (k : Nat) nL then some (fun pc lv st T => match st with
    | .inl i :: r => (match rm1 k lv with
      | some t => nxK (pc + 1) ((k, .inl i) :: t) r T
      | none => none)
    | _ => none) else none
  | .istore k => bif Nat.blt (k : Nat) nL then some (fun pc lv st T => match st with
    | .inl i :: r => (match rm1 k lv with
      | some t => nxK (pc + 2) ((k, .inl i) :: t) r T
      | none => none)
    | _ => none) else none
  | .lstore_n k => bif Nat.blt ((k : Nat) + 1) nL then some (fun pc lv st T => match st with
    | .inr (.inl i) :: r => (match rm2 k lv with
      | some t => nxK (pc + 1) ((k, .inr (.inl i)) :: t) r T
      | none => none)
    | _ => none) else none
  | .lstore k => bif Nat.blt ((k : Nat) + 1) nL then some (fun pc lv st T => match st with
    | .inr (.inl i) :: r => (match rm2 k lv with
      | some t => nxK (pc + 2) ((k, .inr (.inl i)) :: t) r T
      | none => none)
    | _ => none) else none
  | .astore_n k => bif Nat.blt (k : Nat) nL then some (fun pc lv st T => match st with
    | .inr (.inr (some i)) :: r => (match rm1 k lv with
      | some t => nxK (pc + 1) ((k, .inr (.inr (some i))) :: t) r T
      | none => none)
    | _ => none) else none
  | .astore k => bif Nat.blt (k : Nat) nL then some (fun pc lv st T => match st with
    | .inr (.inr (some i)) :: r => (match rm1 k lv with
      | some t => nxK (pc + 2) ((k, .inr (.inr (some i))) :: t) r T
      | none => none)
    | _ => none) else none
  | .iinc k n => bif Nat.blt k nL then some (fun pc lv st T => match algt lv k with
    | some (.inl i) => frcA (addA i (.inl (Int32.ofInt n).toInt)) (fun i1 => match rm1 k lv with
      | some t => nxK (pc + 3) ((k, .inl i1) :: t) st T
      | none => none)
    | _ => none) else none
  | .iadd => some (fun pc lv st T => match st with
    | .inl b :: .inl a :: r => puK (addA a b) (pc + 1) lv r T
    | _ => none)
  | .isub => some (fun pc lv st T => match st with
    | .inl b :: .inl a :: r => puK (subA a b) (pc + 1) lv r T
    | _ => none)
  | .iand => some (fun pc lv st T => match st with
    | .inl b :: .inl a :: r => puK (andA a b) (pc + 1) lv r T
    | _ => none)
  | .ishr => some (fun pc lv st T => match st with
    | .inl b :: .inl a :: r => puK (shrA a b) (pc + 1) lv r T
    | _ => none)
  | .imul => some (fun pc lv st T => match st with
    | .inl b :: .inl a :: r => puK (bin (fun x y => x * y) a b) (pc + 1) lv r T
    | _ => none)
  | .ior => some (fun pc lv st T => match st with
    | .inl b :: .inl a :: r => puK (bin (fun x y => x ||| y) a b) (pc + 1) lv r T
    | _ => none)
  | .ixor => some (fun pc lv st T => match st with
    | .inl b :: .inl a :: r => puK (bin (fun x y => x ^^^ y) a b) (pc + 1) lv r T
    | _ => none)
  | .ishl => some (fun pc lv st T => match st with
    | .inl b :: .inl a :: r => puK (bin (fun x y => x <<< (y &&& 31)) a b) (pc + 1) lv r T
    | _ => none)
  | .iushr => some (fun pc lv st T => match st with
    | .inl b :: .inl a :: r => puK (bin (fun x y => (x.toUInt32 >>> (y.toUInt32 &&& Int32.toUInt32 31)).toInt32) a b) (pc + 1) lv r T
    | _ => none)
  | .idiv => some (fun pc lv st T => match st with
    | .inl (.inl b) :: .inl (.inl a) :: r => bif decide (¬ Int32.ofInt b = 0) then puK (bin (fun x y => x / y) (.inl a) (.inl b)) (pc + 1) lv r T else none
    | _ => none)
  | .irem => some (fun pc lv st T => match st with
    | .inl (.inl b) :: .inl (.inl a) :: r => bif decide (¬ Int32.ofInt b = 0) then puK (bin (fun x y => x - x / y * y) (.inl a) (.inl b)) (pc + 1) lv r T else none
    | _ => none)
  | .ineg => some (fun pc lv st T => match st with
    | .inl a :: r => puK (un (fun x => -x) a) (pc + 1) lv r T
    | _ => none)
  | .i2b => some (fun pc lv st T => match st with
    | .inl a :: r => puK (unF (fun x => x.toInt8.toInt32) okB a) (pc + 1) lv r T
    | _ => none)
  | .i2c => some (fun pc lv st T => match st with
    | .inl a :: r => puK (unF (fun x => (x.toUInt32 % 65536).toInt32) okK a) (pc + 1) lv r T
    | _ => none)
  | .ladd => some (fun pc lv st T => match st with
    | .inr (.inl b) :: .inr (.inl a) :: r => pjK (binJ (fun x y => x + y) a b) (pc + 1) lv r T
    | _ => none)
  | .lsub => some (fun pc lv st T => match st with
    | .inr (.inl b) :: .inr (.inl a) :: r => pjK (binJ (fun x y => x - y) a b) (pc + 1) lv r T
    | _ => none)
  | .lmul => some (fun pc lv st T => match st with
    | .inr (.inl b) :: .inr (.inl a) :: r => pjK (binJ (fun x y => x * y) a b) (pc + 1) lv r T
    | _ => none)
  | .land => some (fun pc lv st T => match st with
    | .inr (.inl b) :: .inr (.inl a) :: r => pjK (binJ (fun x y => x &&& y) a b) (pc + 1) lv r T
    | _ => none)
  | .lor => some (fun pc lv st T => match st with
    | .inr (.inl b) :: .inr (.inl a) :: r => pjK (binJ (fun x y => x ||| y) a b) (pc + 1) lv r T
    | _ => none)
  | .ldiv => some (fun pc lv st T => match st with
    | .inr (.inl (some b)) :: .inr (.inl a) :: r => bif decide (¬ Int64.ofInt b = 0) then pjK (binJ (fun x y => x / y) a (some b)) (pc + 1) lv r T else none
    | _ => none)
  | .lrem => some (fun pc lv st T => match st with
    | .inr (.inl (some b)) :: .inr (.inl a) :: r => bif decide (¬ Int64.ofInt b = 0) then pjK (binJ (fun x y => x - x / y * y) a (some b)) (pc + 1) lv r T else none
    | _ => none)
  | .lushr => some (fun pc lv st T => match st with
    | .inl b :: .inr (.inl a) :: r => pjK (shJ (fun x y => (x.toUInt64 >>> (y.toInt64.toUInt64 &&& Int64.toUInt64 63)).toInt64) a b) (pc + 1) lv r T
    | _ => none)
  | .lshl => some (fun pc lv st T => match st with
    | .inl b :: .inr (.inl a) :: r => pjK (shJ (fun x y => x <<< (y.toInt64 &&& 63)) a b) (pc + 1) lv r T
    | _ => none)
  | .lshr => some (fun pc lv st T => match st with
    | .inl b :: .inr (.inl a) :: r => pjK (shJ (fun x y => x >>> (y.toInt64 &&& 63)) a b) (pc + 1) lv r T
    | _ => none)
  | .lcmp => some (fun pc lv st T => match st with
    | .inr (.inl b) :: .inr (.inl a) :: r => puK (cmpJ a b) (pc + 1) lv r T
    | _ => none)
  | .i2l => some (fun pc lv st T => match st with
    | .inl a :: r => pjK (i2lA a) (pc + 1) lv r T
    | _ => none)
  | .l2i => some (fun pc lv st T => match st with
    | .inr (.inl a) :: r => puK (l2iA a) (pc + 1) lv r T
    | _ => none)
  | .getstatic ix => (match fL ix with
    | some (ci, _, _) => bif Nat.beq ci 91 then some (fun pc lv st T => nxK (pc + 3) lv (.inl (.inl 1) :: st) T) else none
    | none => none)
  | .dup => some (fun pc lv st T => match st with
    | v :: r => bif isJ v then none else nxK (pc + 1) lv (v :: v :: r) T
    | _ => none)
  | .pop => some (fun pc lv st T => match st with
    | v :: r => bif isJ v then none else nxK (pc + 1) lv r T
    | _ => none)
  | .dup2 => some (fun pc lv st T => match st with
    | v :: u :: r => bif isJ v then none else bif isJ u then none else nxK (pc + 1) lv (v :: u :: v :: u :: r) T
    | _ => none)
  | .ifCond c off => some (fun pc lv st T => match st with
    | .inl a :: r => (match jm pc off with
      | some t => (match cndA c a (.inl 0) with
        | some true => nxK t lv r T
        | some false => nxK (pc + 3) lv r T
        | none => none)
      | none => none)
    | _ => none)
  | .if_icmp c off => some (fun pc lv st T => match st with
    | .inl b :: .inl a :: r => (match jm pc off with
      | some t => (match cndA c a b with
        | some true => nxK t lv r T
        | some false => nxK (pc + 3) lv r T
        | none => none)
      | none => none)
    | _ => none)
  | .goto off => some (fun pc lv st T => match jm pc off with
    | some t => nxK t lv st T
    | none => none)
  | .tableswitch d lo hi offs => some (fun pc lv st T => match st with
    | .inl a :: r => bif decide (hiA a < lo) || decide (hi < loA a) then (match jm pc d with
      | some t => nxK t lv r T
      | none => none) else (match a with
      | .inl z => bif decide (lo ≤ z) && decide (z ≤ hi) then (match offs[(z - lo).toNat]? with
        | some o => (match jm pc o with
          | some t => nxK t lv r T
          | none => none)
        | none => none) else none
      | .inr _ => none)
    | _ => none)
  | .lookupswitch d ps => bif (ps.toList.zip (ps.toList.drop 1)).all (fun (a, next) => a.1 < next.1) then some (fun pc lv st T => match st with
    | .inl (.inl z) :: r => (match jm pc (Op.lookupswitch.offset ps.toList d z) with
      | some t => nxK t lv r T
      | none => none)
    | _ => none) else none
  | .getfield ix => (match fL ix with
    | some (ci, j, _) => bif Nat.blt ci 90 then some (fun pc lv st T => match st with
      | .inr (.inr (some k)) :: r => bif layIs lay k 0 ci then (match rdFK (fT ci j) T k j with
        | some v => nxK (pc + 3) lv (v :: r) T
        | none => none) else none
      | _ => none) else bif Nat.beq ci 90 then some (fun pc lv st T => match st with
      | .inr (.inr (some k)) :: r => bif Nat.ble SB k && (strT[k - SB]?).isSome then (bif Nat.beq j 0 then frcN (SV + (k - SB)) (fun b => nxK (pc + 3) lv (.inr (.inr (some b)) :: r) T) else nxK (pc + 3) lv (.inl (.inl 0) :: r) T) else none
      | _ => none) else none
    | none => none)
  | .putfield ix => (match fL ix with
    | some (ci, j, false) => bif Nat.blt ci 90 && !(gF ci j) then some (fun pc lv st T => match st with
      | v :: .inr (.inr (some k)) :: r => bif layIs lay k 0 ci then (match wrFK (fT ci j) T k j v with
        | some T1 => nxK (pc + 3) lv r T1
        | none => none) else none
      | _ => none) else none
    | _ => none)
  | .iaload => some (fun pc lv st T => match st with
    | .inl a :: .inr (.inr (some k)) :: r => bif Nat.beq (lay k).1 1 then (match idx a (lay k).2 with
      | some n => (match rdIK T k n with
        | some v => nxK (pc + 1) lv (.inl v :: r) T
        | none => none)
      | none => none) else none
    | _ => none)
  | .laload => some (fun pc lv st T => match st with
    | .inl a :: .inr (.inr (some k)) :: r => bif Nat.beq (lay k).1 2 then (match idx a (lay k).2 with
      | some n => (match rdJK T k n with
        | some v => nxK (pc + 1) lv (.inr (.inl v) :: r) T
        | none => none)
      | none => none) else none
    | _ => none)
  | .aaload => some (fun pc lv st T => match st with
    | .inl a :: .inr (.inr (some k)) :: r => bif Nat.beq (lay k).1 5 || Nat.beq (lay k).1 6 then (match idx a (lay k).2 with
      | some n => (match rdRK T k n with
        | some v => nxK (pc + 1) lv (.inr (.inr v) :: r) T
        | none => none)
      | none => none) else none
    | _ => none)
  | .baload => some (fun pc lv st T => match st with
    | .inl a :: .inr (.inr (some k)) :: r => bif Nat.ble SV k then (match strT[k - SV]? with
      | some q => (match idx a q.2.2.2.length with
        | some n => puK (.inl (q.2.2.2.getD n 0).toInt) (pc + 1) lv r T
        | none => none)
      | none => none) else bif Nat.beq (lay k).1 3 || Nat.beq (lay k).1 4 then (match idx a (lay k).2 with
      | some n => (match rdIK T k n with
        | some v => nxK (pc + 1) lv (.inl v :: r) T
        | none => none)
      | none => none) else none
    | _ => none)
  | .iastore => some (fun pc lv st T => match st with
    | .inl v :: .inl a :: .inr (.inr (some k)) :: r => bif Nat.beq (lay k).1 1 then (match idx a (lay k).2 with
      | some n => (match putTK T k n (.inl v) with
        | some T1 => nxK (pc + 1) lv r T1
        | none => none)
      | none => none) else none
    | _ => none)
  | .lastore => some (fun pc lv st T => match st with
    | .inr (.inl v) :: .inl a :: .inr (.inr (some k)) :: r => bif Nat.beq (lay k).1 2 then (match idx a (lay k).2 with
      | some n => (match putTK T k n (.inr (.inl v)) with
        | some T1 => nxK (pc + 1) lv r T1
        | none => none)
      | none => none) else none
    | _ => none)
  | .bastore => some (fun pc lv st T => match st with
    | .inl v :: .inl a :: .inr (.inr (some k)) :: r => (match idx a (lay k).2 with
      | some n => bif Nat.beq (lay k).1 3 then frcA (unF (vp_nar .byte) okB v) (fun v => match putTK T k n (.inl v) with
        | some T1 => nxK (pc + 1) lv r T1
        | none => none) else bif Nat.beq (lay k).1 4 then frcA (unF (vp_nar .boolean) okU v) (fun v => match putTK T k n (.inl v) with
        | some T1 => nxK (pc + 1) lv r T1
        | none => none) else none
      | none => none)
    | _ => none)
  | .arraylength => some (fun pc lv st T => match st with
    | .inr (.inr (some k)) :: r => bif Nat.ble SV k then (match strT[k - SV]? with
      | some q => puK (.inl (Int32.ofNat q.2.2.2.length).toInt) (pc + 1) lv r T
      | none => none) else bif Nat.ble 1 (lay k).1 && Nat.ble (lay k).1 6 then puK (.inl (Int32.ofNat (lay k).2).toInt) (pc + 1) lv r T else none
    | _ => none)
  | .ldc ix => (match cL ix with
    | some (.int v) => some (fun pc lv st T => puK (.inl v.toInt) (pc + 2) lv st T)
    | some (.ref k) => some (fun pc lv st T => nxK (pc + 2) lv (.inr (.inr (some k)) :: st) T)
    | _ => none)
  | .ldc_w ix => (match cL ix with
    | some (.int v) => some (fun pc lv st T => puK (.inl v.toInt) (pc + 3) lv st T)
    | some (.ref k) => some (fun pc lv st T => nxK (pc + 3) lv (.inr (.inr (some k)) :: st) T)
    | _ => none)
  | .ldc2_w ix => (match cL ix with
    | some (.long v) => some (fun pc lv st T => pjK (some v.toInt) (pc + 3) lv st T)
    | _ => none)
  | _ => none
set_option maxHeartbeats 4000000 in
theorem astp_okK {lay : Nat → Nat × Nat} {fL : Nat → Option (Nat × Nat × Bool)} {cL : Nat → Option Value} {nL : Nat} {i : Instr} {f : Nat → List (Nat × aV) → List aV → aTK → Option acfgK} (hf : astpK lay fL cL nL i = some f) {pc pc1 : Nat} {lv : List (Nat × Value)} {al al1 : List (Nat × aV)} {st : List Value} {as as1 : List aV} {S : sS} {T T1 : aTK} (hl : gL al lv) (hs : gSt as st) (hS : gSK T S) (h : f pc al as T = some (pc1, al1, as1, T1)) :
    ∃ lv1 st1 S1, stp lay fL cL nL i pc lv st S = some (pc1, lv1, st1, S1) ∧ gL al1 lv1 ∧ gSt as1 st1 ∧ gSK T1 S1 := by
  cases i with
  | iconst n =>
    cases hf
    dsimp only at h
    rw [pu_eqK] at h
    cases h
    exact ⟨_, _, _, rfl, hl, ⟨⟨_, rfl, rfl⟩, hs⟩, hS⟩
  | bipush n =>
    cases hf
    dsimp only at h
    rw [pu_eqK] at h
    cases h
    exact ⟨_, _, _, rfl, hl, ⟨⟨_, rfl, rfl⟩, hs⟩, hS⟩
  | sipush n =>
    cases hf
    dsimp only at h
    rw [pu_eqK] at h
    cases h
    exact ⟨_, _, _, rfl, hl, ⟨⟨_, rfl, rfl⟩, hs⟩, hS⟩
  | lconst n =>
    cases hf
    dsimp only at h
    rw [pj_eqK] at h
    cases h
    exact ⟨_, _, _, rfl, hl, ⟨⟨_, rfl, rfl⟩, hs⟩, hS⟩
  | iload_n k =>
    cases hf
    dsimp only at h
    split at h
    · next i e =>
      rw [nx_eqK] at h
      cases h
      obtain ⟨v, h1, h2⟩ := hl _ _ (algt_mem e)
      have h2 := h2
      obtain ⟨x, rfl, -⟩ := id h2
      refine ⟨_, _, _, ?_, hl, gcons h2 hs, hS⟩
      unfold stp
      dsimp only
      rw [h1]
    · cases h
  | iload k =>
    cases hf
    dsimp only at h
    split at h
    · next i e =>
      rw [nx_eqK] at h
      cases h
      obtain ⟨v, h1, h2⟩ := hl _ _ (algt_mem e)
      have h2 := h2
      obtain ⟨x, rfl, -⟩ := id h2
      refine ⟨_, _, _, ?_, hl, gcons h2 hs, hS⟩
      unfold stp
      dsimp only
      rw [h1]
    · cases h
  | lload_n k =>
    cases hf
    dsimp only at h
    split at h
    · next i e =>
      rw [nx_eqK] at h
      cases h
      obtain ⟨v, h1, h2⟩ := hl _ _ (algt_mem e)
      have h2 := h2
      obtain ⟨x, rfl, -⟩ := id h2
      refine ⟨_, _, _, ?_, hl, gcons h2 hs, hS⟩
      unfold stp
      dsimp only
      rw [h1]
    · cases h
  | lload k =>
    cases hf
    dsimp only at h
    split at h
    · next i e =>
      rw [nx_eqK] at h
      cases h
      obtain ⟨v, h1, h2⟩ := hl _ _ (algt_mem e)
      have h2 := h2
      obtain ⟨x, rfl, -⟩ := id h2
      refine ⟨_, _, _, ?_, hl, gcons h2 hs, hS⟩
      unfold stp
      dsimp only
      rw [h1]
    · cases h
  | aload_n k =>
    cases hf
    dsimp only at h
    split at h
    · next i e =>
      rw [nx_eqK] at h
      cases h
      obtain ⟨v, h1, h2⟩ := hl _ _ (algt_mem e)
      have h2 : v = .ref i := h2
      subst h2
      have h2 : gV (.inr (.inr (some i))) (.ref i) := rfl
      refine ⟨_, _, _, ?_, hl, gcons h2 hs, hS⟩
      unfold stp
      dsimp only
      rw [h1]
    · cases h
  | aload k =>
    cases hf
    dsimp only at h
    split at h
    · next i e =>
      rw [nx_eqK] at h
      cases h
      obtain ⟨v, h1, h2⟩ := hl _ _ (algt_mem e)
      have h2 : v = .ref i := h2
      subst h2
      have h2 : gV (.inr (.inr (some i))) (.ref i) := rfl
      refine ⟨_, _, _, ?_, hl, gcons h2 hs, hS⟩
      unfold stp
      dsimp only
      rw [h1]
    · cases h
  | istore_n k =>
    obtain ⟨hk, hf⟩ := bif_s hf
    cases hf
    dsimp only at h
    split at h
    · split at h
      · next e =>
        rw [nx_eqK] at h
        cases h
        obtain ⟨x, s, rfl, hx, hr⟩ := g1i hs
        refine ⟨_, _, _, ?_, rm1_ok e hl ⟨x, rfl, hx⟩, hr, hS⟩
        unfold stp
        dsimp only
        rw [hk]
        rfl
      · cases h
    · cases h
  | istore k =>
    obtain ⟨hk, hf⟩ := bif_s hf
    cases hf
    dsimp only at h
    split at h
    · split at h
      · next e =>
        rw [nx_eqK] at h
        cases h
        obtain ⟨x, s, rfl, hx, hr⟩ := g1i hs
        refine ⟨_, _, _, ?_, rm1_ok e hl ⟨x, rfl, hx⟩, hr, hS⟩
        unfold stp
        dsimp only
        rw [hk]
        rfl
      · cases h
    · cases h
  | lstore_n k =>
    obtain ⟨hk, hf⟩ := bif_s hf
    cases hf
    dsimp only at h
    split at h
    · split at h
      · next e =>
        rw [nx_eqK] at h
        cases h
        obtain ⟨x, s, rfl, hx, hr⟩ := g1j hs
        refine ⟨_, _, _, ?_, rm2_ok e hl ⟨x, rfl, hx⟩, hr, hS⟩
        unfold stp
        dsimp only
        rw [hk]
        rfl
      · cases h
    · cases h
  | lstore k =>
    obtain ⟨hk, hf⟩ := bif_s hf
    cases hf
    dsimp only at h
    split at h
    · split at h
      · next e =>
        rw [nx_eqK] at h
        cases h
        obtain ⟨x, s, rfl, hx, hr⟩ := g1j hs
        refine ⟨_, _, _, ?_, rm2_ok e hl ⟨x, rfl, hx⟩, hr, hS⟩
        unfold stp
        dsimp only
        rw [hk]
        rfl
      · cases h
    · cases h
  | astore_n k =>
    obtain ⟨hk, hf⟩ := bif_s hf
    cases hf
    dsimp only at h
    split at h
    · split at h
      · next e =>
        rw [nx_eqK] at h
        cases h
        obtain ⟨s, rfl, hr⟩ := g1r hs
        refine ⟨_, _, _, ?_, rm1_ok e hl rfl, hr, hS⟩
        unfold stp
        dsimp only
        rw [hk]
        rfl
      · cases h
    · cases h
  | astore k =>
    obtain ⟨hk, hf⟩ := bif_s hf
    cases hf
    dsimp only at h
    split at h
    · split at h
      · next e =>
        rw [nx_eqK] at h
        cases h
        obtain ⟨s, rfl, hr⟩ := g1r hs
        refine ⟨_, _, _, ?_, rm1_ok e hl rfl, hr, hS⟩
        unfold stp
        dsimp only
        rw [hk]
        rfl
      · cases h
    · cases h
  | iinc k n =>
    obtain ⟨hk, hf⟩ := bif_s hf
    cases hf
    dsimp only at h
    split at h
    · next i e0 =>
      rw [frcA_eq] at h
      split at h
      · next e =>
        rw [nx_eqK] at h
        cases h
        obtain ⟨v, h1, x, rfl, hx⟩ := hl _ _ (algt_mem e0)
        refine ⟨_, _, _, ?_, rm1_ok e hl ⟨_, rfl, addA_ok hx rfl⟩, hs, hS⟩
        unfold stp
        dsimp only
        rw [h1]
        dsimp only
        rw [hk]
        rfl
      · cases h
    · cases h
  | iadd =>
    cases hf
    dsimp only at h
    split at h
    · obtain ⟨y, x, s, rfl, hy, hx, hr⟩ := g2i hs
      rw [pu_eqK] at h
      cases h
      exact ⟨_, _, _, rfl, hl, ⟨⟨_, rfl, addA_ok hx hy⟩, hr⟩, hS⟩
    · cases h
  | isub =>
    cases hf
    dsimp only at h
    split at h
    · obtain ⟨y, x, s, rfl, hy, hx, hr⟩ := g2i hs
      rw [pu_eqK] at h
      cases h
      exact ⟨_, _, _, rfl, hl, ⟨⟨_, rfl, subA_ok hx hy⟩, hr⟩, hS⟩
    · cases h
  | iand =>
    cases hf
    dsimp only at h
    split at h
    · obtain ⟨y, x, s, rfl, hy, hx, hr⟩ := g2i hs
      rw [pu_eqK] at h
      cases h
      exact ⟨_, _, _, rfl, hl, ⟨⟨_, rfl, andA_ok hx hy⟩, hr⟩, hS⟩
    · cases h
  | ishr =>
    cases hf
    dsimp only at h
    split at h
    · obtain ⟨y, x, s, rfl, hy, hx, hr⟩ := g2i hs
      rw [pu_eqK] at h
      cases h
      exact ⟨_, _, _, rfl, hl, ⟨⟨_, rfl, shrA_ok hx hy⟩, hr⟩, hS⟩
    · cases h
  | imul =>
    cases hf
    dsimp only at h
    split at h
    · obtain ⟨y, x, s, rfl, hy, hx, hr⟩ := g2i hs
      rw [pu_eqK] at h
      cases h
      exact ⟨_, _, _, rfl, hl, ⟨⟨_, rfl, bin_ok (f := fun x y => x * y) hx hy⟩, hr⟩, hS⟩
    · cases h
  | ior =>
    cases hf
    dsimp only at h
    split at h
    · obtain ⟨y, x, s, rfl, hy, hx, hr⟩ := g2i hs
      rw [pu_eqK] at h
      cases h
      exact ⟨_, _, _, rfl, hl, ⟨⟨_, rfl, bin_ok (f := fun x y => x ||| y) hx hy⟩, hr⟩, hS⟩
    · cases h
  | ixor =>
    cases hf
    dsimp only at h
    split at h
    · obtain ⟨y, x, s, rfl, hy, hx, hr⟩ := g2i hs
      rw [pu_eqK] at h
      cases h
      exact ⟨_, _, _, rfl, hl, ⟨⟨_, rfl, bin_ok (f := fun x y => x ^^^ y) hx hy⟩, hr⟩, hS⟩
    · cases h
  | ishl =>
    cases hf
    dsimp only at h
    split at h
    · obtain ⟨y, x, s, rfl, hy, hx, hr⟩ := g2i hs
      rw [pu_eqK] at h
      cases h
      exact ⟨_, _, _, rfl, hl, ⟨⟨_, rfl, bin_ok (f := fun x y => x <<< (y &&& 31)) hx hy⟩, hr⟩, hS⟩
    · cases h
  | iushr =>
    cases hf
    dsimp only at h
    split at h
    · obtain ⟨y, x, s, rfl, hy, hx, hr⟩ := g2i hs
      rw [pu_eqK] at h
      cases h
      exact ⟨_, _, _, rfl, hl, ⟨⟨_, rfl, bin_ok (f := fun x y => (x.toUInt32 >>> (y.toUInt32 &&& Int32.toUInt32 31)).toInt32) hx hy⟩, hr⟩, hS⟩
    · cases h
  | idiv =>
    cases hf
    dsimp only at h
    split at h
    · obtain ⟨y, x, s, rfl, hy, hx, hr⟩ := g2i hs
      obtain ⟨hb, h⟩ := bif_s h
      rw [pu_eqK] at h
      cases h
      rw [gI_kn hy] at hb
      refine ⟨_, _, _, ?_, hl, gcons ⟨_, rfl, bin_ok (f := fun x y => x / y) hx hy⟩ hr, hS⟩
      unfold stp
      dsimp only
      rw [hb]
      rfl
    · cases h
  | irem =>
    cases hf
    dsimp only at h
    split at h
    · obtain ⟨y, x, s, rfl, hy, hx, hr⟩ := g2i hs
      obtain ⟨hb, h⟩ := bif_s h
      rw [pu_eqK] at h
      cases h
      rw [gI_kn hy] at hb
      refine ⟨_, _, _, ?_, hl, gcons ⟨_, rfl, bin_ok (f := fun x y => x - x / y * y) hx hy⟩ hr, hS⟩
      unfold stp
      dsimp only
      rw [hb]
      rfl
    · cases h
  | ineg =>
    cases hf
    dsimp only at h
    split at h
    · obtain ⟨x, s, rfl, hx, hr⟩ := g1i hs
      rw [pu_eqK] at h
      cases h
      exact ⟨_, _, _, rfl, hl, ⟨⟨_, rfl, un_ok (f := fun x => -x) hx⟩, hr⟩, hS⟩
    · cases h
  | i2b =>
    cases hf
    dsimp only at h
    split at h
    · obtain ⟨x, s, rfl, hx, hr⟩ := g1i hs
      rw [pu_eqK] at h
      cases h
      exact ⟨_, _, _, rfl, hl, ⟨⟨_, rfl, unF_ok (f := fun x => x.toInt8.toInt32) okB_ok hx⟩, hr⟩, hS⟩
    · cases h
  | i2c =>
    cases hf
    dsimp only at h
    split at h
    · obtain ⟨x, s, rfl, hx, hr⟩ := g1i hs
      rw [pu_eqK] at h
      cases h
      exact ⟨_, _, _, rfl, hl, ⟨⟨_, rfl, unF_ok (f := fun x => (x.toUInt32 % 65536).toInt32) okK_ok hx⟩, hr⟩, hS⟩
    · cases h
  | ladd =>
    cases hf
    dsimp only at h
    split at h
    · obtain ⟨y, x, s, rfl, hy, hx, hr⟩ := g2j hs
      rw [pj_eqK] at h
      cases h
      exact ⟨_, _, _, rfl, hl, ⟨⟨_, rfl, binJ_ok (f := fun x y => x + y) hx hy⟩, hr⟩, hS⟩
    · cases h
  | lsub =>
    cases hf
    dsimp only at h
    split at h
    · obtain ⟨y, x, s, rfl, hy, hx, hr⟩ := g2j hs
      rw [pj_eqK] at h
      cases h
      exact ⟨_, _, _, rfl, hl, ⟨⟨_, rfl, binJ_ok (f := fun x y => x - y) hx hy⟩, hr⟩, hS⟩
    · cases h
  | lmul =>
    cases hf
    dsimp only at h
    split at h
    · obtain ⟨y, x, s, rfl, hy, hx, hr⟩ := g2j hs
      rw [pj_eqK] at h
      cases h
      exact ⟨_, _, _, rfl, hl, ⟨⟨_, rfl, binJ_ok (f := fun x y => x * y) hx hy⟩, hr⟩, hS⟩
    · cases h
  | land =>
    cases hf
    dsimp only at h
    split at h
    · obtain ⟨y, x, s, rfl, hy, hx, hr⟩ := g2j hs
      rw [pj_eqK] at h
      cases h
      exact ⟨_, _, _, rfl, hl, ⟨⟨_, rfl, binJ_ok (f := fun x y => x &&& y) hx hy⟩, hr⟩, hS⟩
    · cases h
  | lor =>
    cases hf
    dsimp only at h
    split at h
    · obtain ⟨y, x, s, rfl, hy, hx, hr⟩ := g2j hs
      rw [pj_eqK] at h
      cases h
      exact ⟨_, _, _, rfl, hl, ⟨⟨_, rfl, binJ_ok (f := fun x y => x ||| y) hx hy⟩, hr⟩, hS⟩
    · cases h
  | ldiv =>
    cases hf
    dsimp only at h
    split at h
    · obtain ⟨y, x, s, rfl, hy, hx, hr⟩ := g2j hs
      obtain ⟨hb, h⟩ := bif_s h
      rw [pj_eqK] at h
      cases h
      rw [gJ_kn hy] at hb
      refine ⟨_, _, _, ?_, hl, gcons ⟨_, rfl, binJ_ok (f := fun x y => x / y) hx hy⟩ hr, hS⟩
      unfold stp
      dsimp only
      rw [hb]
      rfl
    · cases h
  | lrem =>
    cases hf
    dsimp only at h
    split at h
    · obtain ⟨y, x, s, rfl, hy, hx, hr⟩ := g2j hs
      obtain ⟨hb, h⟩ := bif_s h
      rw [pj_eqK] at h
      cases h
      rw [gJ_kn hy] at hb
      refine ⟨_, _, _, ?_, hl, gcons ⟨_, rfl, binJ_ok (f := fun x y => x - x / y * y) hx hy⟩ hr, hS⟩
      unfold stp
      dsimp only
      rw [hb]
      rfl
    · cases h
  | lushr =>
    cases hf
    dsimp only at h
    split at h
    · obtain ⟨y, s, rfl, hy, hr1⟩ := g1i hs
      obtain ⟨x, s, rfl, hx, hr⟩ := g1j hr1
      rw [pj_eqK] at h
      cases h
      exact ⟨_, _, _, rfl, hl, ⟨⟨_, rfl, shJ_ok (f := fun x y => (x.toUInt64 >>> (y.toInt64.toUInt64 &&& Int64.toUInt64 63)).toInt64) hx hy⟩, hr⟩, hS⟩
    · cases h
  | lshl =>
    cases hf
    dsimp only at h
    split at h
    · obtain ⟨y, s, rfl, hy, hr1⟩ := g1i hs
      obtain ⟨x, s, rfl, hx, hr⟩ := g1j hr1
      rw [pj_eqK] at h
      cases h
      exact ⟨_, _, _, rfl, hl, ⟨⟨_, rfl, shJ_ok (f := fun x y => x <<< (y.toInt64 &&& 63)) hx hy⟩, hr⟩, hS⟩
    · cases h
  | lshr =>
    cases hf
    dsimp only at h
    split at h
    · obtain ⟨y, s, rfl, hy, hr1⟩ := g1i hs
      obtain ⟨x, s, rfl, hx, hr⟩ := g1j hr1
      rw [pj_eqK] at h
      cases h
      exact ⟨_, _, _, rfl, hl, ⟨⟨_, rfl, shJ_ok (f := fun x y => x >>> (y.toInt64 &&& 63)) hx hy⟩, hr⟩, hS⟩
    · cases h
  | lcmp =>
    cases hf
    dsimp only at h
    split at h
    · obtain ⟨y, x, s, rfl, hy, hx, hr⟩ := g2j hs
      rw [pu_eqK] at h
      cases h
      exact ⟨_, _, _, rfl, hl, ⟨⟨_, rfl, cmpJ_ok hx hy⟩, hr⟩, hS⟩
    · cases h
  | i2l =>
    cases hf
    dsimp only at h
    split at h
    · obtain ⟨x, s, rfl, hx, hr⟩ := g1i hs
      rw [pj_eqK] at h
      cases h
      exact ⟨_, _, _, rfl, hl, ⟨⟨_, rfl, i2lA_ok hx⟩, hr⟩, hS⟩
    · cases h
  | l2i =>
    cases hf
    dsimp only at h
    split at h
    · obtain ⟨x, s, rfl, hx, hr⟩ := g1j hs
      rw [pu_eqK] at h
      cases h
      exact ⟨_, _, _, rfl, hl, ⟨⟨_, rfl, l2iA_ok hx⟩, hr⟩, hS⟩
    · cases h
  | getstatic ix =>
    dsimp only [astpK] at hf
    split at hf
    · next e =>
      obtain ⟨hb, hf⟩ := bif_s hf
      cases hf
      dsimp only at h
      rw [nx_eqK] at h
      cases h
      refine ⟨_, _, _, ?_, hl, gcons ⟨1, rfl, rfl⟩ hs, hS⟩
      unfold stp
      dsimp only
      rw [e]
      dsimp only
      rw [hb]
      rfl
    · cases hf
  | dup =>
    cases hf
    dsimp only at h
    split at h
    · next v r =>
      obtain ⟨hj, h⟩ := bif_n h
      rw [nx_eqK] at h
      cases h
      obtain ⟨w, s, rfl, hw, hr⟩ := g1 hs
      refine ⟨_, _, _, ?_, hl, gcons hw (gcons hw hr), hS⟩
      unfold stp
      dsimp only
      rw [cat_of hw hj]
      rfl
    · cases h
  | pop =>
    cases hf
    dsimp only at h
    split at h
    · next v r =>
      obtain ⟨hj, h⟩ := bif_n h
      rw [nx_eqK] at h
      cases h
      obtain ⟨w, s, rfl, hw, hr⟩ := g1 hs
      refine ⟨_, _, _, ?_, hl, hr, hS⟩
      unfold stp
      dsimp only
      rw [cat_of hw hj]
      rfl
    · cases h
  | dup2 =>
    cases hf
    dsimp only at h
    split at h
    · next v u r =>
      obtain ⟨hj, h⟩ := bif_n h
      obtain ⟨hj2, h⟩ := bif_n h
      rw [nx_eqK] at h
      cases h
      obtain ⟨w, s, rfl, hw, hr2⟩ := g1 hs
      obtain ⟨w2, s, rfl, hw2, hr⟩ := g1 hr2
      refine ⟨_, _, _, ?_, hl, gcons hw (gcons hw2 (gcons hw (gcons hw2 hr))), hS⟩
      unfold stp
      dsimp only
      rw [cat_of hw hj, cat_of hw2 hj2]
      rfl
    · cases h
  | ifCond c off =>
    cases hf
    dsimp only at h
    split at h
    · obtain ⟨x, s, rfl, hx, hr⟩ := g1i hs
      split at h
      · next t e =>
        split at h
        · next e2 =>
          rw [nx_eqK] at h
          cases h
          refine ⟨_, _, _, ?_, hl, hr, hS⟩
          unfold stp
          dsimp only
          rw [e]
          dsimp only
          rw [cndA_ok hx (show gI (.inl 0) 0 from rfl) e2]
          rfl
        · next e2 =>
          rw [nx_eqK] at h
          cases h
          refine ⟨_, _, _, ?_, hl, hr, hS⟩
          unfold stp
          dsimp only
          rw [e]
          dsimp only
          rw [cndA_ok hx (show gI (.inl 0) 0 from rfl) e2]
          rfl
        · cases h
      · cases h
    · cases h
  | if_icmp c off =>
    cases hf
    dsimp only at h
    split at h
    · obtain ⟨y, x, s, rfl, hy, hx, hr⟩ := g2i hs
      split at h
      · next t e =>
        split at h
        · next e2 =>
          rw [nx_eqK] at h
          cases h
          refine ⟨_, _, _, ?_, hl, hr, hS⟩
          unfold stp
          dsimp only
          rw [e]
          dsimp only
          rw [cndA_ok hx hy e2]
          rfl
        · next e2 =>
          rw [nx_eqK] at h
          cases h
          refine ⟨_, _, _, ?_, hl, hr, hS⟩
          unfold stp
          dsimp only
          rw [e]
          dsimp only
          rw [cndA_ok hx hy e2]
          rfl
        · cases h
      · cases h
    · cases h
  | goto off =>
    cases hf
    dsimp only at h
    split at h
    · next e =>
      rw [nx_eqK] at h
      cases h
      refine ⟨_, _, _, ?_, hl, hs, hS⟩
      unfold stp
      dsimp only
      rw [e]
    · cases h
  | tableswitch d lo hi offs =>
    cases hf
    dsimp only at h
    split at h
    · next a r =>
      obtain ⟨x, s, rfl, hx, hr⟩ := g1i hs
      have hrg := rg_ok hx
      cases hb : (decide (hiA a < lo) || decide (hi < loA a)) with
      | true =>
        rw [hb] at h
        have h : (match jm pc d with | some t => nxK t al r T | none => none) = some (pc1, al1, as1, T1) := h
        split at h
        · next e =>
          rw [nx_eqK] at h
          cases h
          refine ⟨_, _, _, ?_, hl, hr, hS⟩
          unfold stp
          dsimp only
          rw [Bool.or_eq_true, decide_eq_true_eq, decide_eq_true_eq] at hb
          rw [show decide (x.toInt < lo ∨ hi < x.toInt) = true from decide_eq_true (by omega), e]
          rfl
        · cases h
      | false =>
        rw [hb] at h
        cases a with
        | inr q => cases h
        | inl z =>
          obtain ⟨hz, h⟩ := bif_s (show (bif decide (lo ≤ z) && decide (z ≤ hi) then (match offs[(z - lo).toNat]? with | some o => (match jm pc o with | some t => nxK t al r T | none => none) | none => none) else none) = some (pc1, al1, as1, T1) from h)
          rw [Bool.and_eq_true, decide_eq_true_eq, decide_eq_true_eq] at hz
          have hx2 : x.toInt = z := hx
          split at h
          · next o e =>
            split at h
            · next t e2 =>
              rw [nx_eqK] at h
              cases h
              refine ⟨_, _, _, ?_, hl, hr, hS⟩
              unfold stp
              dsimp only
              rw [hx2, show decide (z < lo ∨ hi < z) = false from decide_eq_false (by omega)]
              dsimp only [cond]
              rw [e]
              dsimp only
              rw [e2]
            · cases h
          · cases h
    · cases h
  | lookupswitch d ps =>
    obtain ⟨hk, hf⟩ := bif_s hf
    cases hf
    dsimp only at h
    split at h
    · next z r =>
      obtain ⟨x, s, rfl, hx, hr⟩ := g1i hs
      have hx2 : x.toInt = z := hx
      split at h
      · next t e =>
        rw [nx_eqK] at h
        cases h
        refine ⟨_, _, _, ?_, hl, hr, hS⟩
        unfold stp
        dsimp only
        rw [hk, hx2]
        dsimp only [cond]
        rw [e]
      · cases h
    · cases h
  | getfield ix =>
    dsimp only [astpK] at hf
    split at hf
    · next ci j b e =>
      cases h9 : Nat.blt ci 90 with
      | true =>
        rw [h9] at hf
        cases hf
        dsimp only at h
        split at h
        · next k r =>
          obtain ⟨s, rfl, hr⟩ := g1r hs
          obtain ⟨hb, h⟩ := bif_s h
          split at h
          · next v e2 =>
            rw [nx_eqK] at h
            cases h
            refine ⟨_, _, _, ?_, hl, gcons (rdF_okK hS e2) hr, hS⟩
            unfold stp
            dsimp only
            rw [e]
            dsimp only
            rw [h9]
            dsimp only [cond]
            rw [hb]
          · cases h
        · cases h
      | false =>
        rw [h9] at hf
        obtain ⟨h90, hf⟩ := bif_s hf
        cases hf
        dsimp only at h
        split at h
        · next k r =>
          obtain ⟨s, rfl, hr⟩ := g1r hs
          obtain ⟨hb, h⟩ := bif_s h
          cases hj : Nat.beq j 0 with
          | true =>
            rw [hj] at h
            dsimp only [cond] at h
            rw [frcN_eq, nx_eqK] at h
            cases h
            refine ⟨_, _, _, ?_, hl, gcons (rfl : gV (.inr (.inr (some (SV + (k - SB))))) (.ref (SV + (k - SB)))) hr, hS⟩
            unfold stp
            dsimp only
            rw [e]
            dsimp only
            rw [h9, h90, hb, hj]
            rfl
          | false =>
            rw [hj] at h
            dsimp only [cond] at h
            rw [nx_eqK] at h
            cases h
            refine ⟨_, _, _, ?_, hl, gcons ⟨0, rfl, rfl⟩ hr, hS⟩
            unfold stp
            dsimp only
            rw [e]
            dsimp only
            rw [h9, h90, hb, hj]
            rfl
        · cases h
    · cases hf
  | putfield ix =>
    dsimp only [astpK] at hf
    split at hf
    · next ci j e =>
      obtain ⟨h9, hf⟩ := bif_s hf
      rw [Bool.and_eq_true] at h9
      cases hf
      dsimp only at h
      split at h
      · next v k r =>
        obtain ⟨w, s, rfl, hw, hr0⟩ := g1 hs
        obtain ⟨s, rfl, hr⟩ := g1r hr0
        obtain ⟨hb, h⟩ := bif_s h
        split at h
        · next T2 e2 =>
          rw [nx_eqK] at h
          cases h
          obtain ⟨S2, e3, hS2⟩ := wrF_okK hS hw e2
          refine ⟨_, _, S2, ?_, hl, hr, hS2⟩
          unfold stp
          dsimp only
          rw [e]
          dsimp only
          rw [h9.1, h9.2, hb, e3]
          rfl
        · cases h
      · cases h
    · cases hf
  | iaload =>
    cases hf
    dsimp only at h
    split at h
    · next a k r =>
      obtain ⟨x, s, rfl, hx, hr1⟩ := g1i hs
      obtain ⟨s, rfl, hr⟩ := g1r hr1
      obtain ⟨hb, h⟩ := bif_s h
      split at h
      · next n e =>
        split at h
        · next v e2 =>
          rw [nx_eqK] at h
          cases h
          obtain ⟨i1, i2⟩ := idx_ok hx e
          refine ⟨_, _, _, ?_, hl, gcons (⟨_, rfl, rdI_okK hS e2⟩) hr, hS⟩
          unfold stp
          dsimp only
          rw [hb, i1, i2]
          rfl
        · cases h
      · cases h
    · cases h
  | laload =>
    cases hf
    dsimp only at h
    split at h
    · next a k r =>
      obtain ⟨x, s, rfl, hx, hr1⟩ := g1i hs
      obtain ⟨s, rfl, hr⟩ := g1r hr1
      obtain ⟨hb, h⟩ := bif_s h
      split at h
      · next n e =>
        split at h
        · next v e2 =>
          rw [nx_eqK] at h
          cases h
          obtain ⟨i1, i2⟩ := idx_ok hx e
          refine ⟨_, _, _, ?_, hl, gcons (⟨_, rfl, rdJ_okK hS e2⟩) hr, hS⟩
          unfold stp
          dsimp only
          rw [hb, i1, i2]
          rfl
        · cases h
      · cases h
    · cases h
  | aaload =>
    cases hf
    dsimp only at h
    split at h
    · next a k r =>
      obtain ⟨x, s, rfl, hx, hr1⟩ := g1i hs
      obtain ⟨s, rfl, hr⟩ := g1r hr1
      obtain ⟨hb, h⟩ := bif_s h
      split at h
      · next n e =>
        split at h
        · next v e2 =>
          rw [nx_eqK] at h
          cases h
          obtain ⟨i1, i2⟩ := idx_ok hx e
          refine ⟨_, _, _, ?_, hl, gcons (congrArg rv (rdR_okK hS e2)) hr, hS⟩
          unfold stp
          dsimp only
          rw [hb, i1, i2]
          rfl
        · cases h
      · cases h
    · cases h
  | baload =>
    cases hf
    dsimp only at h
    split at h
    · next a k r =>
      obtain ⟨x, s, rfl, hx, hr2⟩ := g1i hs
      obtain ⟨s, rfl, hr⟩ := g1r hr2
      cases hv : Nat.ble SV k with
      | true =>
        rw [hv] at h
        dsimp only [cond] at h
        split at h
        · next q e0 =>
          split at h
          · next n e =>
            rw [pu_eqK] at h
            cases h
            obtain ⟨i1, i2⟩ := idx_ok hx e
            refine ⟨_, _, _, ?_, hl, gcons ⟨_, rfl, rfl⟩ hr, hS⟩
            unfold stp
            dsimp only
            rw [hv]
            dsimp only [cond]
            rw [e0]
            dsimp only
            rw [i1, i2]
          · cases h
        · cases h
      | false =>
        rw [hv] at h
        dsimp only [cond] at h
        obtain ⟨hb, h⟩ := bif_s h
        split at h
        · next n e =>
          split at h
          · next v e2 =>
            rw [nx_eqK] at h
            cases h
            obtain ⟨i1, i2⟩ := idx_ok hx e
            refine ⟨_, _, _, ?_, hl, gcons ⟨_, rfl, rdI_okK hS e2⟩ hr, hS⟩
            unfold stp
            dsimp only
            rw [hv]
            dsimp only [cond]
            rw [hb, i1, i2]
            rfl
          · cases h
        · cases h
    · cases h
  | iastore =>
    cases hf
    dsimp only at h
    split at h
    · next v a k r =>
      obtain ⟨y, s, rfl, hy, hr0⟩ := g1i hs
      obtain ⟨x, s, rfl, hx, hr1⟩ := g1i hr0
      obtain ⟨s, rfl, hr⟩ := g1r hr1
      obtain ⟨hb, h⟩ := bif_s h
      split at h
      · next n e =>
        split at h
        · next T2 e2 =>
          rw [nx_eqK] at h
          cases h
          obtain ⟨i1, i2⟩ := idx_ok hx e
          refine ⟨_, _, _, ?_, hl, hr, putI_okK hS e2 hy⟩
          unfold stp
          dsimp only
          rw [hb, i1, i2]
          rfl
        · cases h
      · cases h
    · cases h
  | lastore =>
    cases hf
    dsimp only at h
    split at h
    · next v a k r =>
      obtain ⟨y, s, rfl, hy, hr0⟩ := g1j hs
      obtain ⟨x, s, rfl, hx, hr1⟩ := g1i hr0
      obtain ⟨s, rfl, hr⟩ := g1r hr1
      obtain ⟨hb, h⟩ := bif_s h
      split at h
      · next n e =>
        split at h
        · next T2 e2 =>
          rw [nx_eqK] at h
          cases h
          obtain ⟨i1, i2⟩ := idx_ok hx e
          refine ⟨_, _, _, ?_, hl, hr, putJ_okK hS e2 hy⟩
          unfold stp
          dsimp only
          rw [hb, i1, i2]
          rfl
        · cases h
      · cases h
    · cases h
  | bastore =>
    cases hf
    dsimp only at h
    split at h
    · next v a k r =>
      obtain ⟨y, s, rfl, hy, hr2⟩ := g1i hs
      obtain ⟨x, s, rfl, hx, hr0⟩ := g1i hr2
      obtain ⟨s, rfl, hr⟩ := g1r hr0
      split at h
      · next n e =>
        obtain ⟨i1, i2⟩ := idx_ok hx e
        cases h3 : Nat.beq (lay k).1 3 with
        | true =>
          rw [h3] at h
          dsimp only [cond] at h
          rw [frcA_eq] at h
          split at h
          · next T2 e2 =>
            rw [nx_eqK] at h
            cases h
            refine ⟨_, _, _, ?_, hl, hr, putI_okK hS e2 (unF_ok (f := vp_nar .byte) okB_ok hy)⟩
            unfold stp
            dsimp only
            rw [i1, i2, h3]
            rfl
          · cases h
        | false =>
          rw [h3] at h
          dsimp only [cond] at h
          obtain ⟨h4, h⟩ := bif_s h
          rw [frcA_eq] at h
          split at h
          · next T2 e2 =>
            rw [nx_eqK] at h
            cases h
            refine ⟨_, _, _, ?_, hl, hr, putI_okK hS e2 (unF_ok (f := vp_nar .boolean) okU_ok hy)⟩
            unfold stp
            dsimp only
            rw [i1, i2, h3, h4]
            rfl
          · cases h
      · cases h
    · cases h
  | arraylength =>
    cases hf
    dsimp only at h
    split at h
    · next k r =>
      obtain ⟨s, rfl, hr⟩ := g1r hs
      cases hv : Nat.ble SV k with
      | true =>
        rw [hv] at h
        dsimp only [cond] at h
        split at h
        · next q e0 =>
          rw [pu_eqK] at h
          cases h
          refine ⟨_, _, _, ?_, hl, gcons ⟨_, rfl, rfl⟩ hr, hS⟩
          unfold stp
          dsimp only
          rw [hv]
          dsimp only [cond]
          rw [e0]
        · cases h
      | false =>
        rw [hv] at h
        dsimp only [cond] at h
        obtain ⟨hb, h⟩ := bif_s h
        rw [pu_eqK] at h
        cases h
        refine ⟨_, _, _, ?_, hl, gcons ⟨_, rfl, rfl⟩ hr, hS⟩
        unfold stp
        dsimp only
        rw [hv]
        dsimp only [cond]
        rw [hb]
    · cases h
  | ldc ix =>
    dsimp only [astpK] at hf
    split at hf
    · next v e =>
      cases hf
      dsimp only at h
      rw [pu_eqK] at h
      cases h
      refine ⟨_, _, _, ?_, hl, gcons ⟨_, rfl, rfl⟩ hs, hS⟩
      unfold stp
      dsimp only
      rw [e]
    · next k e =>
      cases hf
      dsimp only at h
      rw [nx_eqK] at h
      cases h
      refine ⟨_, _, _, ?_, hl, gcons (rfl : gV (.inr (.inr (some k))) (.ref k)) hs, hS⟩
      unfold stp
      dsimp only
      rw [e]
    · cases hf
  | ldc_w ix =>
    dsimp only [astpK] at hf
    split at hf
    · next v e =>
      cases hf
      dsimp only at h
      rw [pu_eqK] at h
      cases h
      refine ⟨_, _, _, ?_, hl, gcons ⟨_, rfl, rfl⟩ hs, hS⟩
      unfold stp
      dsimp only
      rw [e]
    · next k e =>
      cases hf
      dsimp only at h
      rw [nx_eqK] at h
      cases h
      refine ⟨_, _, _, ?_, hl, gcons (rfl : gV (.inr (.inr (some k))) (.ref k)) hs, hS⟩
      unfold stp
      dsimp only
      rw [e]
    · cases hf
  | ldc2_w ix =>
    dsimp only [astpK] at hf
    split at hf
    · next v e =>
      cases hf
      dsimp only at h
      rw [pj_eqK] at h
      cases h
      refine ⟨_, _, _, ?_, hl, gcons ⟨_, rfl, rfl⟩ hs, hS⟩
      unfold stp
      dsimp only
      rw [e]
    · cases hf
  | _ => exact nomatch (show (none : Option (Nat → List (Nat × aV) → List aV → aTK → Option acfgK)) = some f from hf)


abbrev aFK : Type := Nat → List (Nat × aV) → List aV → aTK → Option acfgK
abbrev aOK : Type := Sum aFK (Sum (Nat × mT × Nat) Nat)
abbrev acalK : Type := mT → List aV → aTK → Option (Option aV × aTK)
def aopCK (kL : Nat → Option (Nat × mT × Nat)) (i : Instr) : Option aOK := match i with
  | .invokevirtual ix => (match kL ix with
    | some (0, md, na) => some (.inr (.inl (0, md, na)))
    | some (4, md, na) => some (.inr (.inl (4, md, na)))
    | _ => none)
  | .invokestatic ix => (match kL ix with
    | some (1, md, na) => some (.inr (.inl (1, md, na)))
    | some (3, md, na) => some (.inr (.inl (3, md, na)))
    | some (9, _, _) => some (.inr (.inr 9))
    | some (10, _, _) => some (.inr (.inr 10))
    | some (11, _, _) => some (.inr (.inr 11))
    | some (12, _, _) => some (.inr (.inr 12))
    | _ => none)
  | .ireturn => some (.inr (.inr 20))
  | .lreturn => some (.inr (.inr 21))
  | .areturn => some (.inr (.inr 22))
  | .return_ => some (.inr (.inr 23))
  | _ => none
noncomputable def aopK (lay : Nat → Nat × Nat) (fL : Nat → Option (Nat × Nat × Bool)) (cL : Nat → Option Value) (kL : Nat → Option (Nat × mT × Nat)) (nL : Nat) (code : List (Nat × Instr)) (pc : Nat) : Option aOK := match lkR code pc with
  | none => none
  | some i => bif isC i then aopCK kL i else (match astpK lay fL cL nL i with
    | some f => some (.inl f)
    | none => none)
noncomputable def aretK {β : Type} (fin : Option aV → aTK → Option β) (ret : Option FieldType) (t : Nat) (st : List aV) (T : aTK) : Option β :=
  bif Nat.beq t 20 then (match st with
    | [.inl a] => bif retIA ret a then fin (some (.inl a)) T else none
    | _ => none)
  else bif Nat.beq t 21 then (match st with
    | [.inr (.inl a)] => (match ret with
      | some .long => fin (some (.inr (.inl a))) T
      | _ => none)
    | _ => none)
  else bif Nat.beq t 22 then (match st with
    | [.inr (.inr a)] => bif retA ret (rv a) then fin (some (.inr (.inr a))) T else none
    | _ => none)
  else bif Nat.beq t 23 then (match st with
    | [] => (match ret with
      | none => fin none T
      | _ => none)
    | _ => none)
  else none
/-- one round: a step, a call, Math, or the end -/
noncomputable def adspK {β : Type} (fin : Option aV → aTK → Option β) (lay : Nat → Nat × Nat) (ret : Option FieldType) (call : acalK) (ih : Nat → List (Nat × aV) → List aV → aTK → Option β) (o : Option aOK) (pc : Nat) (lv : List (Nat × aV)) (st : List aV) (T : aTK) : Option β := match o with
  | none => none
  | some (.inl f) => (match f pc lv st T with
    | some (pc1, lv1, st1, T1) => ih pc1 lv1 st1 T1
    | none => none)
  | some (.inr (.inl (kd, md, na))) => (match spl (bif Nat.beq kd 0 || Nat.beq kd 4 then Nat.succ na else na) [] st with
    | some (av, r) => bif acO lay kd md.2.2.2.2.1 av r then (match call md av T with
      | some (some v, T1) => frcN (Nat.add pc 3) (fun pc => ih pc lv (v :: r) T1)
      | some (none, T1) => frcN (Nat.add pc 3) (fun pc => ih pc lv r T1)
      | none => none) else none
    | none => none)
  | some (.inr (.inr t)) => bif Nat.blt t 20 then (bif Nat.beq t 9 then (match acpy lay st with
    | some r => frcN (Nat.add pc 3) (fun pc => ih pc lv r T)
    | none => none) else (match amth t st with
    | some (a, r) => frcA a (fun a => frcN (Nat.add pc 3) (fun pc => ih pc lv (.inl a :: r) T))
    | none => none)) else aretK fin ret t st T
def finRK (r : Option aV) (T : aTK) : Option (Option aV × aTK) := some (r, T)
noncomputable def arunK (lay : Nat → Nat × Nat) (fL : Nat → Option (Nat × Nat × Bool)) (cL : Nat → Option Value) (kL : Nat → Option (Nat × mT × Nat)) (nL : Nat) (ret : Option FieldType) (call : acalK) (code : List (Nat × Instr)) (F : Nat) : Nat → List (Nat × aV) → List aV → aTK → Option (Option aV × aTK) := Nat.rec (motive := fun _ => Nat → List (Nat × aV) → List aV → aTK → Option (Option aV × aTK)) (fun _ _ _ _ => none) (fun _ ih pc lv st T => adspK finRK lay ret call ih (aopK lay fL cL kL nL code pc) pc lv st T) F
noncomputable def ackIK (av : List aV) (T : aTK) : Option (Option aV × aTK) := match av with
  | [.inl (.inl x), .inl (.inl n)] => bif decide (0 ≤ x) && decide (x < n) then some (none, T) else none
  | _ => none
noncomputable def aevdK (lay : Nat → Nat × Nat) (F d : Nat) : acalK := Nat.rec (motive := fun _ => acalK) (fun _ _ _ => none) (fun _ ih q av T => bif Nat.beq q.2.2.2.2.1 99 then ackIK av T else bif Nat.ble (acs av) q.2.2.1 then (match alv av 0 with
  | some al => arunK lay (fLs q.2.2.2.2.1) (cLs q.2.2.2.2.1) (kLs q.2.2.2.2.1) q.2.2.1 q.2.2.2.1 ih q.2.2.2.2.2 F 0 al [] T
  | none => none) else none) d
/-- what a call must keep -/
def gCalK (ac : acalK) (c : cal) : Prop := ∀ md av T r T1, ac md av T = some (r, T1) → ∀ vs S, gSt av vs → gSK T S → ∃ r1 S1, c md vs S = some (r1, S1) ∧ gO r r1 ∧ gSK T1 S1
section ARK
variable {lay : Nat → Nat × Nat} {fL : Nat → Option (Nat × Nat × Bool)} {cL : Nat → Option Value} {kL : Nat → Option (Nat × mT × Nat)} {nL : Nat} {ret : Option FieldType} {call : cal} {code : List (Nat × Instr)} {F pc : Nat} {lv : List (Nat × Value)} {st : List Value} {S S1 : sS} {ix na : Nat} {md : mT}
theorem adsp_callK {call : acalK} {ih : Nat → List (Nat × aV) → List aV → aTK → Option (Option aV × aTK)} {kd pc : Nat} {al : List (Nat × aV)} {as : List aV} {T T0 : aTK} {r0 : Option aV} (h : adspK finRK lay ret call ih (some (.inr (.inl (kd, md, na)))) pc al as T = some (r0, T0)) : ∃ av r ra T1, spl (bif Nat.beq kd 0 || Nat.beq kd 4 then Nat.succ na else na) [] as = some (av, r) ∧ acO lay kd md.2.2.2.2.1 av r = true ∧ call md av T = some (ra, T1) ∧ ih (pc + 3) al (match (generalizing := false) ra with | some v => v :: r | none => r) T1 = some (r0, T0) := by
  unfold adspK at h
  dsimp only at h
  split at h
  · next av r hsp =>
    obtain ⟨hc, h⟩ := bif_s h
    split at h
    · next v T1 he =>
      rw [frcN_eq] at h
      exact ⟨av, r, some v, T1, hsp, hc, he, h⟩
    · next T1 he =>
      rw [frcN_eq] at h
      exact ⟨av, r, none, T1, hsp, hc, he, h⟩
    · cases h
  · cases h
theorem arun_okK {acall : acalK} (hcall : gCalK acall call) : ∀ (F pc : Nat) (al : List (Nat × aV)) (as : List aV) (T : aTK) (r0 : Option aV) (T0 : aTK), arunK lay fL cL kL nL ret acall code F pc al as T = some (r0, T0) → ∀ (lv : List (Nat × Value)) (st : List Value) (S : sS), gL al lv → gSt as st → gSK T S → ∃ r1 S1, run lay fL cL kL nL ret call code F pc lv st S = some (r1, S1) ∧ gO r0 r1 ∧ gSK T0 S1 := by
  intro F
  induction F with
  | zero => intro pc al as T r0 T0 h; exact nomatch (show (none : Option (Option aV × aTK)) = some _ from h)
  | succ F ih =>
    intro pc al as T r0 T0 h lv st S hl hs hS
    replace h : adspK finRK lay ret acall (arunK lay fL cL kL nL ret acall code F) (aopK lay fL cL kL nL code pc) pc al as T = some (r0, T0) := h
    cases hi : lk code pc with
    | none =>
      have e : aopK lay fL cL kL nL code pc = none := by unfold aopK; rw [lkR_eq, hi]
      rw [e] at h
      exact nomatch (show (none : Option (Option aV × aTK)) = some _ from h)
    | some i =>
      have e : aopK lay fL cL kL nL code pc = bif isC i then aopCK kL i else (match (generalizing := false) astpK lay fL cL nL i with | some f => some (.inl f) | none => none) := by unfold aopK; rw [lkR_eq, hi]
      rw [e] at h
      cases hC : isC i with
      | false =>
        rw [hC] at h
        replace h : adspK finRK lay ret acall (arunK lay fL cL kL nL ret acall code F) (match (generalizing := false) astpK lay fL cL nL i with | some f => some (.inl f) | none => none) pc al as T = some (r0, T0) := h
        cases hf : astpK lay fL cL nL i with
        | none => rw [hf] at h; exact nomatch (show (none : Option (Option aV × aTK)) = some _ from h)
        | some f =>
          rw [hf] at h
          unfold adspK at h
          dsimp only at h
          split at h
          · next pc1 al1 as1 T1 hstep =>
            obtain ⟨lv1, st1, S1, q1, q2, q3, q4⟩ := astp_okK hf hl hs hS hstep
            rw [run_other hi hC q1]
            exact ih _ _ _ _ _ _ h _ _ _ q2 q3 q4
          · cases h
      | true =>
        rw [hC] at h
        replace h : adspK finRK lay ret acall (arunK lay fL cL kL nL ret acall code F) (aopCK kL i) pc al as T = some (r0, T0) := h
        unfold aopCK at h
        split at h
        · next ix =>
          split at h
          · next md na hk =>
            obtain ⟨av, r, ra, T1, h1, h2, h3, h4⟩ := adsp_callK h
            obtain ⟨q1, q2, q3⟩ := spl_ok _ _ _ _ _ h1 st [] hs trivial
            rw [List.append_nil] at q3
            obtain ⟨rc, S1, g1', g2', g3'⟩ := hcall _ _ _ _ _ h3 _ _ q3 hS
            rw [run_V0 hi hk (acO_0 h1 hs h2) g1']
            exact ih _ _ _ _ _ _ h4 _ _ _ hl (gO_cons g2' q2) g3'
          · next md na hk =>
            obtain ⟨av, r, ra, T1, h1, h2, h3, h4⟩ := adsp_callK h
            obtain ⟨q1, q2, q3⟩ := spl_ok _ _ _ _ _ h1 st [] hs trivial
            rw [List.append_nil] at q3
            obtain ⟨rc, S1, g1', g2', g3'⟩ := hcall _ _ _ _ _ h3 _ _ q3 hS
            rw [run_V4 hi hk (acO_4 h1 hs h2) g1']
            exact ih _ _ _ _ _ _ h4 _ _ _ hl (gO_cons g2' q2) g3'
          · exact nomatch (show (none : Option (Option aV × aTK)) = some _ from h)
        · next ix =>
          split at h
          · next md na hk =>
            obtain ⟨av, r, ra, T1, h1, h2, h3, h4⟩ := adsp_callK h
            obtain ⟨q1, q2, q3⟩ := spl_ok _ _ _ _ _ h1 st [] hs trivial
            rw [List.append_nil] at q3
            obtain ⟨rc, S1, g1', g2', g3'⟩ := hcall _ _ _ _ _ h3 _ _ q3 hS
            rw [run_S1 hi hk (acO_S h1 hs h2) g1']
            exact ih _ _ _ _ _ _ h4 _ _ _ hl (gO_cons g2' q2) g3'
          · next md na hk =>
            obtain ⟨av, r, ra, T1, h1, h2, h3, h4⟩ := adsp_callK h
            obtain ⟨q1, q2, q3⟩ := spl_ok _ _ _ _ _ h1 st [] hs trivial
            rw [List.append_nil] at q3
            obtain ⟨rc, S1, g1', g2', g3'⟩ := hcall _ _ _ _ _ h3 _ _ q3 hS
            rw [run_S3 hi hk (acO_S h1 hs h2) g1']
            exact ih _ _ _ _ _ _ h4 _ _ _ hl (gO_cons g2' q2) g3'
          · next md na hk =>
            replace h : (match (generalizing := false) acpy lay as with | some r => frcN (Nat.add pc 3) (fun pc => arunK lay fL cL kL nL ret acall code F pc al r T) | none => none) = some (r0, T0) := h
            split at h
            · next r hm =>
              rw [frcN_eq] at h
              unfold acpy at hm
              split at hm
              · next n dp b sp a r' =>
                obtain ⟨hb, hm⟩ := bif_s hm
                cases hm
                rw [Bool.and_eq_true, Bool.and_eq_true, Bool.and_eq_true, Bool.and_eq_true] at hb
                obtain ⟨⟨b1, b2, b3⟩, b4, b5⟩ := hb
                obtain ⟨vn, s1, rfl, hn, hr1⟩ := g1i hs
                obtain ⟨vd, s2, rfl, hd, hr2⟩ := g1i hr1
                obtain ⟨s3, rfl, hr3⟩ := g1r hr2
                obtain ⟨vs, s4, rfl, hp, hr4⟩ := g1i hr3
                obtain ⟨s5, rfl, hr5⟩ := g1r hr4
                obtain ⟨n1, n2⟩ := kn_a hn
                obtain ⟨d1, d2⟩ := kn_a hd
                obtain ⟨p1, p2⟩ := kn_a hp
                rw [acs_ok hr5] at b5
                rw [run_cp hi hk b5 (acp0 (n2.trans (Nat.eq_of_beq_eq_true b1)) n1 p1 d1 (by rw [p2]; exact Nat.le_of_ble_eq_true b2) (by rw [d2]; exact Nat.le_of_ble_eq_true b3) b4)]
                exact ih _ _ _ _ _ _ h _ _ _ hl hr5 hS
              · cases hm
            · cases h
          · next md na hk =>
            replace h : (match (generalizing := false) amth 10 as with | some (a, r) => frcA a (fun a => frcN (Nat.add pc 3) (fun pc => arunK lay fL cL kL nL ret acall code F pc al (.inl a :: r) T)) | none => none) = some (r0, T0) := h
            split at h
            · next a r hm =>
              rw [frcA_eq, frcN_eq] at h
              unfold amth at hm
              replace hm : (match (generalizing := false) as with | .inl b :: .inl a :: r => bif Nat.ble (acs r) 8 then some (bin (fun x y => if x < y then y else x) a b, r) else none | _ => none) = some (a, r) := hm
              split at hm
              · next b a' r' =>
                obtain ⟨hb, hm⟩ := bif_s hm
                cases hm
                obtain ⟨y, x, s, rfl, hy, hx, hr⟩ := g2i hs
                rw [acs_ok hr] at hb
                rw [run_max hi hk hb]
                exact ih _ _ _ _ _ _ h _ _ _ hl (gcons ⟨_, rfl, bin_ok (f := fun x y => if x < y then y else x) hx hy⟩ hr) hS
              · cases hm
            · cases h
          · next md na hk =>
            replace h : (match (generalizing := false) amth 11 as with | some (a, r) => frcA a (fun a => frcN (Nat.add pc 3) (fun pc => arunK lay fL cL kL nL ret acall code F pc al (.inl a :: r) T)) | none => none) = some (r0, T0) := h
            split at h
            · next a r hm =>
              rw [frcA_eq, frcN_eq] at h
              unfold amth at hm
              replace hm : (match (generalizing := false) as with | .inl b :: .inl a :: r => bif Nat.ble (acs r) 8 then some (bin (fun x y => if y < x then y else x) a b, r) else none | _ => none) = some (a, r) := hm
              split at hm
              · next b a' r' =>
                obtain ⟨hb, hm⟩ := bif_s hm
                cases hm
                obtain ⟨y, x, s, rfl, hy, hx, hr⟩ := g2i hs
                rw [acs_ok hr] at hb
                rw [run_min hi hk hb]
                exact ih _ _ _ _ _ _ h _ _ _ hl (gcons ⟨_, rfl, bin_ok (f := fun x y => if y < x then y else x) hx hy⟩ hr) hS
              · cases hm
            · cases h
          · next md na hk =>
            replace h : (match (generalizing := false) amth 12 as with | some (a, r) => frcA a (fun a => frcN (Nat.add pc 3) (fun pc => arunK lay fL cL kL nL ret acall code F pc al (.inl a :: r) T)) | none => none) = some (r0, T0) := h
            split at h
            · next a r hm =>
              rw [frcA_eq, frcN_eq] at h
              unfold amth at hm
              replace hm : (match (generalizing := false) as with | .inl a :: r => bif Nat.ble (acs r) 8 then some (un (fun x => if 0 ≤ x then x else 0 - x) a, r) else none | _ => none) = some (a, r) := hm
              split at hm
              · next a' r' =>
                obtain ⟨hb, hm⟩ := bif_s hm
                cases hm
                obtain ⟨x, s, rfl, hx, hr⟩ := g1i hs
                rw [acs_ok hr] at hb
                rw [run_abs hi hk hb]
                exact ih _ _ _ _ _ _ h _ _ _ hl (gcons ⟨_, rfl, un_ok (f := fun x => if 0 ≤ x then x else 0 - x) hx⟩ hr) hS
              · cases hm
            · cases h
          · exact nomatch (show (none : Option (Option aV × aTK)) = some _ from h)
        · replace h : (match (generalizing := false) as with | [.inl a] => bif retIA ret a then some (some (.inl a), T) else none | _ => none) = some (r0, T0) := h
          split at h
          · next a =>
            obtain ⟨hb, h⟩ := bif_s h
            cases h
            obtain ⟨x, s, rfl, hx, hr⟩ := g1i hs
            cases s with
            | nil => exact ⟨_, _, run_ir hi (retI_ok hx hb), ⟨x, rfl, hx⟩, hS⟩
            | cons _ _ => exact hr.elim
          · cases h
        · replace h : (match (generalizing := false) as with | [.inr (.inl a)] => (match (generalizing := false) ret with | some .long => some (some (.inr (.inl a)), T) | _ => none) | _ => none) = some (r0, T0) := h
          split at h
          · next a =>
            split at h
            · next =>
              cases h
              obtain ⟨x, s, rfl, hx, hr⟩ := g1j hs
              cases s with
              | nil => exact ⟨_, _, run_lr hi rfl, ⟨x, rfl, hx⟩, hS⟩
              | cons _ _ => exact hr.elim
            · cases h
          · cases h
        · replace h : (match (generalizing := false) as with | [.inr (.inr a)] => bif retA ret (rv a) then some (some (.inr (.inr a)), T) else none | _ => none) = some (r0, T0) := h
          split at h
          · next a =>
            obtain ⟨hb, h⟩ := bif_s h
            cases h
            obtain ⟨x, s, rfl, hx, hr⟩ := g1 hs
            replace hx : x = rv a := hx
            cases s with
            | nil => exact ⟨_, _, run_ar hi (hx ▸ hb), hx, hS⟩
            | cons _ _ => exact hr.elim
          · cases h
        · replace h : (match (generalizing := false) as with | [] => (match (generalizing := false) ret with | none => some (none, T) | _ => none) | _ => none) = some (r0, T0) := h
          split at h
          · split at h
            · cases h
              cases st with
              | nil => exact ⟨_, _, run_vr hi rfl, trivial, hS⟩
              | cons _ _ => exact hs.elim
            · cases h
          · cases h
        · exact nomatch (show (none : Option (Option aV × aTK)) = some _ from h)
end ARK
theorem aevd_okK {lay : Nat → Nat × Nat} {F : Nat} : ∀ d, gCalK (aevdK lay F d) (evd lay F d) := by
  intro d
  induction d with
  | zero => intro q av T r T1 h; exact nomatch (show (none : Option (Option aV × aTK)) = some _ from h)
  | succ d ih =>
    intro q av T r T1 h vs S hv hS
    replace h : (bif Nat.beq q.2.2.2.2.1 99 then ackIK av T else bif Nat.ble (acs av) q.2.2.1 then (match (generalizing := false) alv av 0 with
      | some al => arunK lay (fLs q.2.2.2.2.1) (cLs q.2.2.2.2.1) (kLs q.2.2.2.2.1) q.2.2.1 q.2.2.2.1 (aevdK lay F d) q.2.2.2.2.2 F 0 al [] T
      | none => none) else none) = some (r, T1) := h
    unfold evd
    cases h9 : Nat.beq q.2.2.2.2.1 99 with
    | true =>
      rw [h9] at h
      replace h : ackIK av T = some (r, T1) := h
      show ∃ r1 S1, ckI vs S = some (r1, S1) ∧ gO r r1 ∧ gSK T1 S1
      unfold ackIK at h
      split at h
      · next x n =>
        obtain ⟨hb, h⟩ := bif_s h
        cases h
        rw [Bool.and_eq_true, decide_eq_true_eq, decide_eq_true_eq] at hb
        obtain ⟨x', s, rfl, hx, hr⟩ := g1i hv
        obtain ⟨n', s', rfl, hn, hr⟩ := g1i hr
        cases s' with
        | cons _ _ => exact hr.elim
        | nil =>
          replace hx : x'.toInt = x := hx
          replace hn : n'.toInt = n := hn
          refine ⟨none, S, ?_, trivial, hS⟩
          unfold ckI
          dsimp only
          rw [show (decide (¬ x' < 0) && decide (x' < n')) = true from by
            rw [Bool.and_eq_true, decide_eq_true_eq, decide_eq_true_eq, Int32.lt_iff_toInt_lt, Int32.lt_iff_toInt_lt, hx, hn]
            exact ⟨show ¬ x < 0 by omega, hb.2⟩]
          rfl
      · cases h
    | false =>
      rw [h9] at h
      obtain ⟨hw, h⟩ := bif_s (show (bif Nat.ble (acs av) q.2.2.1 then _ else none) = some _ from h)
      split at h
      · next al hal =>
        rw [acs_ok hv] at hw
        show ∃ r1 S1, (bif Nat.ble (wds vs) q.2.2.1 then run lay (fLs q.2.2.2.2.1) (cLs q.2.2.2.2.1) (kLs q.2.2.2.2.1) q.2.2.1 q.2.2.2.1 (evd lay F d) q.2.2.2.2.2 F 0 (lv_args 0 vs) [] S else none) = some (r1, S1) ∧ gO r r1 ∧ gSK T1 S1
        rw [show Nat.ble (wds vs) q.2.2.1 = true from hw]
        exact arun_okK ih F 0 al [] T r T1 h _ _ _ (alv_ok hal hv) trivial hS
      · cases h
end
section
/-! what a run of known cells says -/
theorem kn_evr {q : mT} {F d : Nat} {av : List aV} {vs : List Value} {A B : sS} {r : Option Value} {T T1 : aTK} {r0 : Option aV} (h : aevdK lay0 F d q av T = some (r0, T1)) (hv : gSt av vs) (hA : gSK T A) (e : EVR q vs A r B) : gSK T1 B := by
  obtain ⟨G, d2, e⟩ := e
  obtain ⟨r1, S1, e1, _, g⟩ := aevd_okK d q av T r0 T1 h vs A hv hA
  have m1 := evd_mono (lay := lay0) (F := F) (F2 := max F G) (Nat.le_max_left _ _) d (max d d2) (Nat.le_max_left _ _) q vs A _ e1
  have m2 := evd_mono (lay := lay0) (F := G) (F2 := max F G) (Nat.le_max_right _ _) d2 (max d d2) (Nat.le_max_right _ _) q vs A _ e
  rw [m1] at m2
  have e3 : (r1, S1) = (r, B) := Option.some.inj m2
  have e4 : S1 = B := congrArg Prod.snd e3
  rw [← e4]
  exact g
noncomputable def eTK (n : Nat) : Tr aRK n := Nat.rec (motive := fun n => Tr aRK n) ((0, []) : aRK) (fun _ t => (t, t)) n
theorem eTK_rd : ∀ (n k : Nat), rdT n (eTK n) k = (0, []) := by
  intro n
  induction n with
  | zero => intro k; rfl
  | succ n ih =>
    intro k
    show (bif Nat.beq (k % 2) 0 then rdT n (eTK n) (k / 2) else rdT n (eTK n) (k / 2)) = (0, [])
    rw [ih]
    cases Nat.beq (k % 2) 0 <;> rfl
theorem eTK_g (S : sS) : gSK (eTK 10) S := fun k j => by
  have e : lookK (eTK 10) k j = none := by
    unfold lookK
    cases Nat.blt k 1024 with
    | false => rfl
    | true =>
      show lkK (rdT 10 (eTK 10) k) j = none
      rw [eTK_rd]
      rfl
  rw [e]
  trivial
noncomputable def mkK (L : List (Nat × Nat × Nat)) : Option aTK := List.rec (some (eTK 10)) (fun q _ ih => match ih with
  | some T => putTK T q.1 q.2.1 (.inr (.inr (some q.2.2)))
  | none => none) L
theorem mkK_ok {S : sS} : ∀ (L : List (Nat × Nat × Nat)) (T : aTK), mkK L = some T → (∀ q ∈ L, S.2.2 q.1 q.2.1 = some q.2.2) → gSK T S := by
  intro L
  induction L with
  | nil =>
    intro T h _
    have h' : some (eTK 10) = some T := h
    rw [← Option.some.inj h']
    exact eTK_g S
  | cons q t ih =>
    intro T h hq
    have h : (match mkK t with
      | some T => putTK T q.1 q.2.1 (.inr (.inr (some q.2.2)))
      | none => none) = some T := h
    cases hm : mkK t with
    | none => rw [hm] at h; exact nomatch h
    | some T0 =>
      rw [hm] at h
      exact putT_okK (ih T0 hm (fun p hp => hq p (List.mem_cons_of_mem _ hp))) h (fun _ _ _ => ⟨rfl, rfl, rfl⟩) (hq q List.mem_cons_self)
def isIK (o : Option aV) (v : Int) : Bool := match o with
  | some (.inl (.inl z)) => decide (z = v)
  | _ => false
def isJK (o : Option aV) (v : Int) : Bool := match o with
  | some (.inr (.inl (some z))) => decide (z = v)
  | _ => false
theorem isIK_ok {T : aTK} {S : sS} {k j : Nat} {v : Int} (g : gSK T S) (h : isIK (lookK T k j) v = true) : Xi S k j = v := by
  have c := g k j
  unfold isIK at h
  split at h
  · next z e =>
    rw [e] at c
    have c : (S.1 k j).toInt = z := c
    exact c.trans (of_decide_eq_true h)
  · exact nomatch h
theorem isJK_ok {T : aTK} {S : sS} {k j : Nat} {v : Int} (g : gSK T S) (h : isJK (lookK T k j) v = true) : Xj S k j = v := by
  have c := g k j
  unfold isJK at h
  split at h
  · next z e =>
    rw [e] at c
    have c : (S.2.1 k j).toInt = z := c
    exact c.trans (of_decide_eq_true h)
  · exact nomatch h
noncomputable def rwIK (T : aTK) (k : Nat) (L : List Int) : Nat → Bool := List.rec (motive := fun _ => Nat → Bool) (fun _ => true) (fun v _ ih j => isIK (lookK T k j) v && frcN (Nat.succ j) ih) L
noncomputable def rwJK (T : aTK) (k : Nat) (L : List Int) : Nat → Bool := List.rec (motive := fun _ => Nat → Bool) (fun _ => true) (fun v _ ih j => isJK (lookK T k j) v && frcN (Nat.succ j) ih) L
theorem rwIK_ok {T : aTK} {S : sS} {k : Nat} (g : gSK T S) : ∀ (L : List Int) (j : Nat), rwIK T k L j = true → ∀ i, i < L.length → Xi S k (j + i) = L.getD i 0 := by
  intro L
  induction L with
  | nil => intro j _ i hi; exact absurd hi (Nat.not_lt_zero _)
  | cons v t ih =>
    intro j h i hi
    have h : (isIK (lookK T k j) v && frcN (Nat.succ j) (rwIK T k t)) = true := h
    rw [frcN_eq, Bool.and_eq_true] at h
    cases i with
    | zero => exact isIK_ok g h.1
    | succ i =>
      have u := ih (Nat.succ j) h.2 i (by simpa using hi)
      rw [show j + (i + 1) = Nat.succ j + i by omega]
      exact u
theorem rwJK_ok {T : aTK} {S : sS} {k : Nat} (g : gSK T S) : ∀ (L : List Int) (j : Nat), rwJK T k L j = true → ∀ i, i < L.length → Xj S k (j + i) = L.getD i 0 := by
  intro L
  induction L with
  | nil => intro j _ i hi; exact absurd hi (Nat.not_lt_zero _)
  | cons v t ih =>
    intro j h i hi
    have h : (isJK (lookK T k j) v && frcN (Nat.succ j) (rwJK T k t)) = true := h
    rw [frcN_eq, Bool.and_eq_true] at h
    cases i with
    | zero => exact isJK_ok g h.1
    | succ i =>
      have u := ih (Nat.succ j) h.2 i (by simpa using hi)
      rw [show j + (i + 1) = Nat.succ j + i by omega]
      exact u
noncomputable def rwZK (T : aTK) (k n : Nat) : Bool := bif Nat.blt k 1024 then (bif Nat.ble n (rdT 10 T k).1 then (rdT 10 T k).2.all (fun p => Nat.ble n p.1) else false) else false
theorem lkV_a {l : aC} {j : Nat} : ∀ {v : aV}, lkV l j = some v → ∃ p ∈ l, p.1 = j := by
  induction l with
  | nil => intro v h; exact nomatch h
  | cons q t ih =>
    intro v h
    obtain ⟨a, x⟩ := q
    rw [lkV_cons] at h
    cases h2 : Nat.beq a j with
    | true => exact ⟨(a, x), List.mem_cons_self, Nat.eq_of_beq_eq_true h2⟩
    | false =>
      rw [h2] at h
      obtain ⟨p, hp, e⟩ := ih h
      exact ⟨p, List.mem_cons_of_mem _ hp, e⟩
theorem rwZK_ok {T : aTK} {S : sS} {k n : Nat} (g : gSK T S) (h : rwZK T k n = true) : ∀ i, i < n → Xi S k i = 0 := fun i hi => by
  unfold rwZK at h
  cases hb : Nat.blt k 1024 with
  | false => rw [hb] at h; exact nomatch h
  | true =>
    rw [hb] at h
    have h : (bif Nat.ble n (rdT 10 T k).1 then (rdT 10 T k).2.all (fun p => Nat.ble n p.1) else false) = true := h
    cases hz : Nat.ble n (rdT 10 T k).1 with
    | false => rw [hz] at h; exact nomatch h
    | true =>
      rw [hz] at h
      have h : (rdT 10 T k).2.all (fun p => Nat.ble n p.1) = true := h
      have hn := Nat.le_of_ble_eq_true hz
      have e : lookK T k i = some (.inl (.inl 0)) := by
        unfold lookK
        rw [hb]
        show lkK (rdT 10 T k) i = _
        unfold lkK
        cases hl : lkV (rdT 10 T k).2 i with
        | some v =>
          obtain ⟨p, hp, ep⟩ := lkV_a hl
          have := Nat.le_of_ble_eq_true (List.all_eq_true.mp h p hp)
          omega
        | none =>
          have b : Nat.blt i (rdT 10 T k).1 = true := Nat.ble_eq_true_of_le (by omega)
          show (bif Nat.blt i (rdT 10 T k).1 then (some (.inl (.inl 0)) : Option aV) else none) = _
          rw [b]
          rfl
      have c := g k i
      rw [e] at c
      exact c
noncomputable def chkK (LI LJ : List (Nat × List Int)) (F G : List (Nat × Nat × Int)) (Z : List (Nat × Nat)) (T : aTK) : Bool := LI.all (fun q => rwIK T q.1 q.2 0) && (LJ.all (fun q => rwJK T q.1 q.2 0) && (F.all (fun q => isIK (lookK T q.1 q.2.1) q.2.2) && (G.all (fun q => isJK (lookK T q.1 q.2.1) q.2.2) && Z.all (fun q => rwZK T q.1 q.2))))
/-- what is known behind a run -/
def KNF (LI LJ : List (Nat × List Int)) (F G : List (Nat × Nat × Int)) (Z : List (Nat × Nat)) (B : sS) : Prop := (∀ q ∈ LI, ∀ i, i < q.2.length → Xi B q.1 i = q.2.getD i 0) ∧ (∀ q ∈ LJ, ∀ i, i < q.2.length → Xj B q.1 i = q.2.getD i 0) ∧ (∀ q ∈ F, Xi B q.1 q.2.1 = q.2.2) ∧ (∀ q ∈ G, Xj B q.1 q.2.1 = q.2.2) ∧ ∀ q ∈ Z, ∀ i, i < q.2 → Xi B q.1 i = 0
theorem chkK_ok {LI LJ : List (Nat × List Int)} {F G : List (Nat × Nat × Int)} {Z : List (Nat × Nat)} {T : aTK} {B : sS} (g : gSK T B) (h : chkK LI LJ F G Z T = true) : KNF LI LJ F G Z B := by
  unfold chkK at h
  rw [Bool.and_eq_true, Bool.and_eq_true, Bool.and_eq_true, Bool.and_eq_true] at h
  obtain ⟨h1, h2, h3, h4, h5⟩ := h
  refine ⟨fun q hq i hi => ?_, fun q hq i hi => ?_, fun q hq => isIK_ok g (List.all_eq_true.mp h3 q hq), fun q hq => isJK_ok g (List.all_eq_true.mp h4 q hq), fun q hq => rwZK_ok g (List.all_eq_true.mp h5 q hq)⟩
  · have u := rwIK_ok g q.2 0 (List.all_eq_true.mp h1 q hq) i hi
    rw [Nat.zero_add] at u
    exact u
  · have u := rwJK_ok g q.2 0 (List.all_eq_true.mp h2 q hq) i hi
    rw [Nat.zero_add] at u
    exact u
noncomputable def runK (q : mT) (o : Nat) (R : List (Nat × Nat × Nat)) (LI LJ : List (Nat × List Int)) (F G : List (Nat × Nat × Int)) (Z : List (Nat × Nat)) : Bool := match mkK R with
  | some T => (match aevdK lay0 60000 12 q [.inr (.inr (some o))] T with
    | some (_, T1) => chkK LI LJ F G Z T1
    | none => false)
  | none => false
def refK (k j a : Nat) : Bool := (match rT k j with
  | some b => Nat.beq b a
  | none => false) || rRw.any (fun q => Nat.beq q.1 k && (Nat.blt j q.2.2 && Nat.beq (q.2.1 + j) a))
theorem refK_ok {A : sS} (h : HI A) {k j a : Nat} (r : refK k j a = true) : A.2.2 k j = some a := by
  unfold refK at r
  rw [Bool.or_eq_true] at r
  rcases r with r | r
  · cases hr : rT k j with
    | none => rw [hr] at r; exact nomatch r
    | some b =>
      rw [hr] at r
      have e : b = a := Nat.eq_of_beq_eq_true r
      rw [← e]
      exact h.r k j b hr
  · obtain ⟨q, hq, p⟩ := List.any_eq_true.mp r
    rw [Bool.and_eq_true, Bool.and_eq_true] at p
    have e1 := Nat.eq_of_beq_eq_true p.1
    have e2 := Nat.le_of_ble_eq_true p.2.1
    have e3 := Nat.eq_of_beq_eq_true p.2.2
    have u := h.1.2.1 q hq j (by omega)
    rw [e1, e3] at u
    exact u
theorem knf_i {A B : sS} {q : mT} {o : Nat} {R : List (Nat × Nat × Nat)} {LI LJ : List (Nat × List Int)} {F G : List (Nat × Nat × Int)} {Z : List (Nat × Nat)} {r : Option Value} (h : HI A) (hr : R.all (fun q => refK q.1 q.2.1 q.2.2) = true) (hk : runK q o R LI LJ F G Z = true) (e : EVR q [.ref o] A r B) : KNF LI LJ F G Z B := by
  unfold runK at hk
  cases hm : mkK R with
  | none => rw [hm] at hk; exact nomatch hk
  | some T =>
    rw [hm] at hk
    have hk : (match aevdK lay0 60000 12 q [.inr (.inr (some o))] T with
      | some (_, T1) => chkK LI LJ F G Z T1
      | none => false) = true := hk
    have g : gSK T A := mkK_ok R T hm (fun p hp => refK_ok h (List.all_eq_true.mp hr p hp))
    cases ha : aevdK lay0 60000 12 q [.inr (.inr (some o))] T with
    | none => rw [ha] at hk; exact nomatch hk
    | some w =>
      obtain ⟨r0, T1⟩ := w
      rw [ha] at hk
      exact chkK_ok (kn_evr (vs := [.ref o]) ha (show gV (.inr (.inr (some o))) (.ref o) ∧ True from ⟨rfl, trivial⟩) g e) hk

/-! rs_startAgain, run in the kernel: what it leaves, whatever was there before -/
def kRc : List (Nat × Nat × Nat) := [(0, 0, 1), (0, 1, 20), (0, 2, 246), (0, 3, 882), (0, 6, 891), (1, 0, 2), (1, 1, 3), (1, 2, 4), (1, 4, 5), (1, 5, 6), (1, 6, 7), (1, 8, 9), (1, 9, 10), (1, 10, 11), (1, 18, 19), (20, 0, 1), (20, 2, 21), (20, 3, 22), (20, 4, 23), (20, 5, 24), (20, 6, 65), (20, 9, 188), (20, 10, 195), (24, 0, 25), (24, 1, 26), (24, 2, 27), (24, 3, 28), (24, 4, 29), (24, 5, 30), (24, 6, 31), (24, 7, 32), (24, 8, 33), (24, 9, 34), (24, 10, 35), (24, 11, 36), (24, 12, 37), (24, 13, 38), (24, 14, 39), (24, 15, 40), (24, 16, 41), (24, 17, 42), (24, 18, 43), (24, 19, 44), (24, 20, 45), (24, 21, 46), (24, 22, 47), (24, 23, 48), (24, 24, 49), (24, 25, 50), (24, 26, 51), (24, 27, 52), (24, 28, 53), (24, 29, 54), (24, 30, 55), (24, 31, 56), (24, 32, 57), (24, 33, 58), (24, 34, 59), (24, 35, 60), (24, 36, 61), (24, 37, 62), (24, 38, 63), (24, 39, 64), (65, 0, 66), (65, 1, 67), (65, 2, 68), (65, 3, 69), (65, 4, 70), (65, 5, 71), (65, 6, 72), (65, 7, 73), (65, 8, 74), (65, 9, 75), (65, 10, 76), (65, 11, 77), (65, 12, 78), (65, 13, 79), (65, 14, 80), (65, 15, 81), (65, 16, 82), (65, 17, 83), (65, 18, 84), (65, 19, 85), (65, 20, 86), (65, 21, 87), (65, 22, 88), (65, 23, 89), (65, 24, 90), (65, 25, 91), (65, 26, 92), (65, 27, 93), (65, 28, 94), (65, 29, 95), (65, 30, 96), (65, 31, 97), (65, 32, 98), (65, 33, 99), (65, 34, 100), (65, 35, 101), (65, 36, 102), (65, 37, 103), (65, 38, 104), (65, 39, 105), (188, 0, 189), (188, 1, 190), (188, 2, 191), (188, 3, 192), (188, 4, 193), (188, 5, 194), (195, 0, 196), (195, 1, 197), (195, 2, 198), (195, 3, 199), (195, 4, 200), (195, 5, 201), (195, 6, 202), (195, 7, 203), (195, 8, 204), (195, 9, 205), (195, 10, 206), (195, 11, 207), (195, 12, 208), (195, 13, 209), (195, 14, 210), (195, 15, 211), (195, 16, 212), (195, 17, 213), (195, 18, 214), (195, 19, 215), (195, 20, 216), (195, 21, 217), (195, 22, 218), (195, 23, 219), (882, 4, 883), (882, 5, 884), (882, 6, 885), (882, 7, 886), (882, 8, 887)]
def kIc : List (Nat × List Int) := [(3, [0, 11, 0, 11, 0, 11, 0, 11, 0, 11, 1, 1, 5, 3, 3, 8, 8, 8, 8, 8, 14, 14, 14, 14, 14, 14, 2]), (4, [0, 0, 1, 1, 2, 2, 3, 3, 4, 4, 0, 1, 0, 0, 1, 0, 1, 2, 3, 4, 0, 1, 2, 3, 4, 5, 0]), (5, [5, 2, 1, 2, 0, 1, 0, 0, 5]), (6, [-1, -1, 0, 0, 0]), (7, [1, 1, 0, 0, 0]), (9, [1]), (11, [1, 0]), (19, [-1, 0, 0, 0, -2]), (21, [4]), (23, [-1]), (196, [-1, -1, -1, -1, -1, -1]), (197, [-1, -1, -1, -1, -1, -1]), (198, [-1, -1, -1, -1, -1, -1]), (199, [-1, -1, -1, -1, -1, -1]), (200, [-1, -1, -1, -1, -1, -1]), (201, [-1, -1, -1, -1, -1, -1]), (202, [-1, -1, -1, -1, -1, -1]), (203, [-1, -1, -1, -1, -1, -1]), (204, [-1, -1, -1, -1, -1, -1]), (205, [-1, -1, -1, -1, -1, -1]), (206, [-1, -1, -1, -1, -1, -1]), (207, [-1, -1, -1, -1, -1, -1]), (208, [-1, -1, -1, -1, -1, -1]), (209, [-1, -1, -1, -1, -1, -1]), (210, [-1, -1, -1, -1, -1, -1]), (211, [-1, -1, -1, -1, -1, -1]), (212, [-1, -1, -1, -1, -1, -1]), (213, [-1, -1, -1, -1, -1, -1]), (214, [-1, -1, -1, -1, -1, -1]), (215, [-1, -1, -1, -1, -1, -1]), (216, [-1, -1, -1, -1, -1, -1]), (217, [-1, -1, -1, -1, -1, -1]), (218, [-1, -1, -1, -1, -1, -1]), (219, [-1, -1, -1, -1, -1, -1]), (883, [0, 1, 1, 2, 3, 4, 4]), (884, [1, 2, 2, 2, 2, 2, 1]), (885, [-1, 1, 1, 1, 1, 1, 0]), (886, [-1, 0, 0, 0, 0, -2, -2])]
def kJc : List (Nat × List Int) := [(2, [10793230, 0, 0, 291417229, 0, 0, 365647, 0, 0, 9872488, 0, 0, 1009905491421, 0, 0, 27267448268386, 0, 0, 5592265261380, 0, 0, 150991162057279, 0, 0, 232608281, 0, 0, 232546955, 0, 0, 212302449, 0, 0, 397973, 0, 0, 867097169668940, 0, 0, 3383428, 0, 0, 173445889199, 0, 0, 8930203729, 0, 0, 287733040, 0, 0, 49039040149, 0, 0, 1663775181034, 0, 0, 4022278, 0, 0, 7749089, 0, 0, 10408481, 0, 0, 99677, 0, 0, 456887, 0, 0, 583, 0, 0, 90302, 0, 0, 235997865, 0, 0])]
def kFc : List (Nat × Nat × Int) := [(1, 3, 27), (20, 12, 0), (246, 2, 0), (246, 5, 0), (246, 8, 0), (882, 3, 7), (891, 10, -1)]
def kGc : List (Nat × Nat × Int) := [(887, 0, 453701), (887, 8, 394691), (887, 16, 5258), (887, 24, 92275), (887, 32, 2282270477), (887, 40, 204)]
def kZc : List (Nat × Nat) := [(10, 2), (22, 1), (25, 24), (26, 24), (27, 24), (28, 24), (29, 24), (30, 24), (31, 24), (32, 24), (33, 24), (34, 24), (35, 24), (36, 24), (37, 24), (38, 24), (39, 24), (40, 24), (41, 24), (42, 24), (43, 24), (44, 24), (45, 24), (46, 24), (47, 24), (48, 24), (49, 24), (50, 24), (51, 24), (52, 24), (53, 24), (54, 24), (55, 24), (56, 24), (57, 24), (58, 24), (59, 24), (60, 24), (61, 24), (62, 24), (63, 24), (64, 24), (66, 12), (67, 12), (68, 12), (69, 12), (70, 12), (71, 12), (72, 12), (73, 12), (74, 12), (75, 12), (76, 12), (77, 12), (78, 12), (79, 12), (80, 12), (81, 12), (82, 12), (83, 12), (84, 12), (85, 12), (86, 12), (87, 12), (88, 12), (89, 12), (90, 12), (91, 12), (92, 12), (93, 12), (94, 12), (95, 12), (96, 12), (97, 12), (98, 12), (99, 12), (100, 12), (101, 12), (102, 12), (103, 12), (104, 12), (105, 12), (189, 24), (190, 24), (191, 24), (192, 24), (193, 24), (194, 24)]
theorem kn_runc : runK m_rs_startAgain 0 kRc kIc kJc kFc kGc kZc = true := by decide +kernel
theorem kn_refc : kRc.all (fun q => refK q.1 q.2.1 q.2.2) = true := by decide +kernel
theorem kn_c {A B : sS} (h : HI A) (e : EVR m_rs_startAgain [.ref 0] A none B) : KNF kIc kJc kFc kGc kZc B := knf_i h kn_refc kn_runc e

/-! mo_begin, run in the kernel: what it leaves, whatever was there before -/
def kRr : List (Nat × Nat × Nat) := [(904, 10, 912), (904, 11, 913), (904, 12, 914), (904, 13, 915), (904, 14, 916), (904, 17, 917), (904, 20, 918), (904, 21, 919), (904, 22, 920), (904, 24, 921), (904, 25, 922), (904, 27, 924), (904, 28, 925), (904, 29, 926), (904, 33, 928), (904, 34, 929), (904, 35, 930), (904, 38, 933), (904, 46, 940), (904, 50, 942), (904, 56, 946), (904, 57, 947), (904, 58, 948), (904, 59, 949)]
def kIr : List (Nat × List Int) := [(912, [1, 1, 1, 1, 1, 1, 1, 1, 1, 1, 1, 1, 1, 1, 1, 1, 1, 1, 1, 1, 1, 1, 1, 1, 1, 1, 1]), (914, [0, 1, 0, 1, 0, 1, 0, 1, 0, 1, 2, 2, 5, 5, 7, 4, 11, 11, 11, 11, 11, 12, 12, 12, 12, 12, 12]), (915, [0, 0, 1, 1, 2, 2, 3, 3, 4, 4, 0, 1, 0, 1, 0, 0, 0, 1, 2, 3, 4, 0, 1, 2, 3, 4, 5]), (917, [-1, -1, 0, 0, 0]), (918, [4]), (920, [-1]), (922, [1, 0]), (928, [1]), (929, [1, 0, 0, 0, 0, 0, 0, 0, 0, 0, 0, 0, 1, 0, 0, 0, 0, 0, 0, 0, 0, 0, 0, 0, 0, 0, 0, 0, 0, 0, 0, 0, 0, 0, 0, 0, 0, 0, 0, 0, 0, 0, 0, 0, 0, 0, 0, 0, 0, 0, 0, 0, 0, 0, 0, 0, 0, 0, 0, 0]), (942, [-1, 0, 0, 0, -2]), (946, [0, 1, 1, 2, 3, 4, 4]), (947, [1, 2, 2, 2, 2, 2, 1]), (949, [-1, 0, 0, 0, 0, -2, -2])]
def kJr : List (Nat × List Int) := [(913, [21243335, 0, 0, 679786739, 0, 0, 605677, 0, 0, 19381683, 0, 0, 3829635791026, 0, 0, 122548345312851, 0, 0, 21630008512690, 0, 0, 692160272406099, 0, 0, 542723566, 0, 0, 542622085, 0, 0, 492210354, 0, 0, 661268, 0, 0, 6611108, 0, 0, 566486927749, 0, 0, 4700534934742510, 0, 0, 549512370, 0, 0, 24739718599, 0, 0, 672507335, 0, 0, 157286933959, 0, 0, 6323711714759, 0, 0, 7841223, 0, 0, 15190664, 0, 0, 20436616, 0, 0, 165492, 0, 0, 759412, 0, 0, 688, 0, 0, 147182, 0, 0])]
def kFr : List (Nat × Nat × Int) := [(904, 15, 27), (904, 16, 5), (904, 18, 2), (904, 19, 1), (904, 23, 2), (904, 30, 0), (904, 32, 1), (904, 41, 0), (904, 47, 0), (904, 49, 5), (904, 51, 0), (904, 55, 7), (904, 60, -1), (904, 117, 0), (904, 125, 0), (904, 130, 0), (904, 156, 0)]
def kGr : List (Nat × Nat × Int) := [(948, 0, 754996), (948, 8, 656741), (948, 9, 0), (948, 16, 7348), (948, 17, 0), (948, 24, 150000), (948, 25, 0), (948, 32, 6175499717), (948, 33, 0), (948, 40, 239), (948, 41, 0), (948, 48, 0)]
def kZr : List (Nat × Nat) := [(916, 27), (919, 1), (921, 2), (924, 2), (925, 24), (926, 120), (930, 12), (933, 60), (940, 3456)]
theorem kn_runr : runK m_mo_begin 904 kRr kIr kJr kFr kGr kZr = true := by decide +kernel
theorem kn_refr : kRr.all (fun q => refK q.1 q.2.1 q.2.2) = true := by decide +kernel
theorem kn_r {A B : sS} (h : HI A) (e : EVR m_mo_begin [.ref 904] A none B) : KNF kIr kJr kFr kGr kZr B := knf_i h kn_refr kn_runr e
end
section
/-! both worlds agree behind startAgain and begin -/
def qc3 : List Int := [0, 11, 0, 11, 0, 11, 0, 11, 0, 11, 1, 1, 5, 3, 3, 8, 8, 8, 8, 8, 14, 14, 14, 14, 14, 14, 2]
def qc4 : List Int := [0, 0, 1, 1, 2, 2, 3, 3, 4, 4, 0, 1, 0, 0, 1, 0, 1, 2, 3, 4, 0, 1, 2, 3, 4, 5, 0]
def qc5 : List Int := [5, 2, 1, 2, 0, 1, 0, 0, 5]
def qc6 : List Int := [-1, -1, 0, 0, 0]
def qc7 : List Int := [1, 1, 0, 0, 0]
def qc9 : List Int := [1]
def qc11 : List Int := [1, 0]
def qc19 : List Int := [-1, 0, 0, 0, -2]
def qc21 : List Int := [4]
def qc23 : List Int := [-1]
def qc883 : List Int := [0, 1, 1, 2, 3, 4, 4]
def qc884 : List Int := [1, 2, 2, 2, 2, 2, 1]
def qc885 : List Int := [-1, 1, 1, 1, 1, 1, 0]
def qc886 : List Int := [-1, 0, 0, 0, 0, -2, -2]
def qc2 : List Int := [10793230, 0, 0, 291417229, 0, 0, 365647, 0, 0, 9872488, 0, 0, 1009905491421, 0, 0, 27267448268386, 0, 0, 5592265261380, 0, 0, 150991162057279, 0, 0, 232608281, 0, 0, 232546955, 0, 0, 212302449, 0, 0, 397973, 0, 0, 867097169668940, 0, 0, 3383428, 0, 0, 173445889199, 0, 0, 8930203729, 0, 0, 287733040, 0, 0, 49039040149, 0, 0, 1663775181034, 0, 0, 4022278, 0, 0, 7749089, 0, 0, 10408481, 0, 0, 99677, 0, 0, 456887, 0, 0, 583, 0, 0, 90302, 0, 0, 235997865, 0, 0]
def qr912 : List Int := [1, 1, 1, 1, 1, 1, 1, 1, 1, 1, 1, 1, 1, 1, 1, 1, 1, 1, 1, 1, 1, 1, 1, 1, 1, 1, 1]
def qr914 : List Int := [0, 1, 0, 1, 0, 1, 0, 1, 0, 1, 2, 2, 5, 5, 7, 4, 11, 11, 11, 11, 11, 12, 12, 12, 12, 12, 12]
def qr915 : List Int := [0, 0, 1, 1, 2, 2, 3, 3, 4, 4, 0, 1, 0, 1, 0, 0, 0, 1, 2, 3, 4, 0, 1, 2, 3, 4, 5]
def qr917 : List Int := [-1, -1, 0, 0, 0]
def qr918 : List Int := [4]
def qr920 : List Int := [-1]
def qr922 : List Int := [1, 0]
def qr928 : List Int := [1]
def qr929 : List Int := [1, 0, 0, 0, 0, 0, 0, 0, 0, 0, 0, 0, 1, 0, 0, 0, 0, 0, 0, 0, 0, 0, 0, 0, 0, 0, 0, 0, 0, 0, 0, 0, 0, 0, 0, 0, 0, 0, 0, 0, 0, 0, 0, 0, 0, 0, 0, 0, 0, 0, 0, 0, 0, 0, 0, 0, 0, 0, 0, 0]
def qr942 : List Int := [-1, 0, 0, 0, -2]
def qr946 : List Int := [0, 1, 1, 2, 3, 4, 4]
def qr947 : List Int := [1, 2, 2, 2, 2, 2, 1]
def qr949 : List Int := [-1, 0, 0, 0, 0, -2, -2]
def qr913 : List Int := [21243335, 0, 0, 679786739, 0, 0, 605677, 0, 0, 19381683, 0, 0, 3829635791026, 0, 0, 122548345312851, 0, 0, 21630008512690, 0, 0, 692160272406099, 0, 0, 542723566, 0, 0, 542622085, 0, 0, 492210354, 0, 0, 661268, 0, 0, 6611108, 0, 0, 566486927749, 0, 0, 4700534934742510, 0, 0, 549512370, 0, 0, 24739718599, 0, 0, 672507335, 0, 0, 157286933959, 0, 0, 6323711714759, 0, 0, 7841223, 0, 0, 15190664, 0, 0, 20436616, 0, 0, 165492, 0, 0, 759412, 0, 0, 688, 0, 0, 147182, 0, 0]
def qp : List Nat := [0, 1, 2, 3, 4, 5, 6, 7, 8, 9, 10, 11, 14, 12, 13, 16, 17, 18, 19, 20, 21, 22, 23, 24, 25, 26, 15]
def qi : List Nat := [0, 1, 2, 3, 4, 5, 6, 7, 8, 9, 10, 11, 13, 14, 12, 26, 15, 16, 17, 18, 19, 20, 21, 22, 23, 24, 25]
def qgw : List Int := [453701, 394691, 5258, 92275, 2282270477, 204]
def qgs : List Int := [754996, 656741, 7348, 150000, 6175499717, 239]
abbrev KCF (U : sS) : Prop := KNF kIc kJc kFc kGc kZc U
abbrev KRF (S : sS) : Prop := KNF kIr kJr kFr kGr kZr S
section
variable {U S : sS}
theorem fc3 (h : KCF U) : ∀ i, i < 27 → Xi U 3 i = qc3.getD i 0 := fun i hi => h.1 (3, qc3) (by decide +kernel) i hi
theorem fc4 (h : KCF U) : ∀ i, i < 27 → Xi U 4 i = qc4.getD i 0 := fun i hi => h.1 (4, qc4) (by decide +kernel) i hi
theorem fc5 (h : KCF U) : ∀ i, i < 9 → Xi U 5 i = qc5.getD i 0 := fun i hi => h.1 (5, qc5) (by decide +kernel) i hi
theorem fc6 (h : KCF U) : ∀ i, i < 5 → Xi U 6 i = qc6.getD i 0 := fun i hi => h.1 (6, qc6) (by decide +kernel) i hi
theorem fc7 (h : KCF U) : ∀ i, i < 5 → Xi U 7 i = qc7.getD i 0 := fun i hi => h.1 (7, qc7) (by decide +kernel) i hi
theorem fc9 (h : KCF U) : ∀ i, i < 1 → Xi U 9 i = qc9.getD i 0 := fun i hi => h.1 (9, qc9) (by decide +kernel) i hi
theorem fc11 (h : KCF U) : ∀ i, i < 2 → Xi U 11 i = qc11.getD i 0 := fun i hi => h.1 (11, qc11) (by decide +kernel) i hi
theorem fc19 (h : KCF U) : ∀ i, i < 5 → Xi U 19 i = qc19.getD i 0 := fun i hi => h.1 (19, qc19) (by decide +kernel) i hi
theorem fc21 (h : KCF U) : ∀ i, i < 1 → Xi U 21 i = qc21.getD i 0 := fun i hi => h.1 (21, qc21) (by decide +kernel) i hi
theorem fc23 (h : KCF U) : ∀ i, i < 1 → Xi U 23 i = qc23.getD i 0 := fun i hi => h.1 (23, qc23) (by decide +kernel) i hi
theorem fc883 (h : KCF U) : ∀ i, i < 7 → Xi U 883 i = qc883.getD i 0 := fun i hi => h.1 (883, qc883) (by decide +kernel) i hi
theorem fc884 (h : KCF U) : ∀ i, i < 7 → Xi U 884 i = qc884.getD i 0 := fun i hi => h.1 (884, qc884) (by decide +kernel) i hi
theorem fc885 (h : KCF U) : ∀ i, i < 7 → Xi U 885 i = qc885.getD i 0 := fun i hi => h.1 (885, qc885) (by decide +kernel) i hi
theorem fc886 (h : KCF U) : ∀ i, i < 7 → Xi U 886 i = qc886.getD i 0 := fun i hi => h.1 (886, qc886) (by decide +kernel) i hi
theorem fc2 (h : KCF U) : ∀ i, i < 81 → Xj U 2 i = qc2.getD i 0 := fun i hi => h.2.1 (2, qc2) (by decide +kernel) i hi
theorem fr912 (h : KRF S) : ∀ i, i < 27 → Xi S 912 i = qr912.getD i 0 := fun i hi => h.1 (912, qr912) (by decide +kernel) i hi
theorem fr914 (h : KRF S) : ∀ i, i < 27 → Xi S 914 i = qr914.getD i 0 := fun i hi => h.1 (914, qr914) (by decide +kernel) i hi
theorem fr915 (h : KRF S) : ∀ i, i < 27 → Xi S 915 i = qr915.getD i 0 := fun i hi => h.1 (915, qr915) (by decide +kernel) i hi
theorem fr917 (h : KRF S) : ∀ i, i < 5 → Xi S 917 i = qr917.getD i 0 := fun i hi => h.1 (917, qr917) (by decide +kernel) i hi
theorem fr918 (h : KRF S) : ∀ i, i < 1 → Xi S 918 i = qr918.getD i 0 := fun i hi => h.1 (918, qr918) (by decide +kernel) i hi
theorem fr920 (h : KRF S) : ∀ i, i < 1 → Xi S 920 i = qr920.getD i 0 := fun i hi => h.1 (920, qr920) (by decide +kernel) i hi
theorem fr922 (h : KRF S) : ∀ i, i < 2 → Xi S 922 i = qr922.getD i 0 := fun i hi => h.1 (922, qr922) (by decide +kernel) i hi
theorem fr928 (h : KRF S) : ∀ i, i < 1 → Xi S 928 i = qr928.getD i 0 := fun i hi => h.1 (928, qr928) (by decide +kernel) i hi
theorem fr929 (h : KRF S) : ∀ i, i < 60 → Xi S 929 i = qr929.getD i 0 := fun i hi => h.1 (929, qr929) (by decide +kernel) i hi
theorem fr942 (h : KRF S) : ∀ i, i < 5 → Xi S 942 i = qr942.getD i 0 := fun i hi => h.1 (942, qr942) (by decide +kernel) i hi
theorem fr946 (h : KRF S) : ∀ i, i < 7 → Xi S 946 i = qr946.getD i 0 := fun i hi => h.1 (946, qr946) (by decide +kernel) i hi
theorem fr947 (h : KRF S) : ∀ i, i < 7 → Xi S 947 i = qr947.getD i 0 := fun i hi => h.1 (947, qr947) (by decide +kernel) i hi
theorem fr949 (h : KRF S) : ∀ i, i < 7 → Xi S 949 i = qr949.getD i 0 := fun i hi => h.1 (949, qr949) (by decide +kernel) i hi
theorem fr913 (h : KRF S) : ∀ i, i < 81 → Xj S 913 i = qr913.getD i 0 := fun i hi => h.2.1 (913, qr913) (by decide +kernel) i hi
theorem fc1_3 (h : KCF U) : Xi U 1 3 = 27 := h.2.2.1 (1, 3, 27) (by decide +kernel)
theorem fc20_12 (h : KCF U) : Xi U 20 12 = 0 := h.2.2.1 (20, 12, 0) (by decide +kernel)
theorem fc246_2 (h : KCF U) : Xi U 246 2 = 0 := h.2.2.1 (246, 2, 0) (by decide +kernel)
theorem fc246_5 (h : KCF U) : Xi U 246 5 = 0 := h.2.2.1 (246, 5, 0) (by decide +kernel)
theorem fc246_8 (h : KCF U) : Xi U 246 8 = 0 := h.2.2.1 (246, 8, 0) (by decide +kernel)
theorem fc882_3 (h : KCF U) : Xi U 882 3 = 7 := h.2.2.1 (882, 3, 7) (by decide +kernel)
theorem fc891_10 (h : KCF U) : Xi U 891 10 = -1 := h.2.2.1 (891, 10, -1) (by decide +kernel)
theorem fr904_15 (h : KRF S) : Xi S 904 15 = 27 := h.2.2.1 (904, 15, 27) (by decide +kernel)
theorem fr904_16 (h : KRF S) : Xi S 904 16 = 5 := h.2.2.1 (904, 16, 5) (by decide +kernel)
theorem fr904_18 (h : KRF S) : Xi S 904 18 = 2 := h.2.2.1 (904, 18, 2) (by decide +kernel)
theorem fr904_19 (h : KRF S) : Xi S 904 19 = 1 := h.2.2.1 (904, 19, 1) (by decide +kernel)
theorem fr904_23 (h : KRF S) : Xi S 904 23 = 2 := h.2.2.1 (904, 23, 2) (by decide +kernel)
theorem fr904_30 (h : KRF S) : Xi S 904 30 = 0 := h.2.2.1 (904, 30, 0) (by decide +kernel)
theorem fr904_32 (h : KRF S) : Xi S 904 32 = 1 := h.2.2.1 (904, 32, 1) (by decide +kernel)
theorem fr904_41 (h : KRF S) : Xi S 904 41 = 0 := h.2.2.1 (904, 41, 0) (by decide +kernel)
theorem fr904_47 (h : KRF S) : Xi S 904 47 = 0 := h.2.2.1 (904, 47, 0) (by decide +kernel)
theorem fr904_49 (h : KRF S) : Xi S 904 49 = 5 := h.2.2.1 (904, 49, 5) (by decide +kernel)
theorem fr904_51 (h : KRF S) : Xi S 904 51 = 0 := h.2.2.1 (904, 51, 0) (by decide +kernel)
theorem fr904_55 (h : KRF S) : Xi S 904 55 = 7 := h.2.2.1 (904, 55, 7) (by decide +kernel)
theorem fr904_60 (h : KRF S) : Xi S 904 60 = -1 := h.2.2.1 (904, 60, -1) (by decide +kernel)
theorem fr904_117 (h : KRF S) : Xi S 904 117 = 0 := h.2.2.1 (904, 117, 0) (by decide +kernel)
theorem fr904_125 (h : KRF S) : Xi S 904 125 = 0 := h.2.2.1 (904, 125, 0) (by decide +kernel)
theorem fr904_130 (h : KRF S) : Xi S 904 130 = 0 := h.2.2.1 (904, 130, 0) (by decide +kernel)
theorem fr904_156 (h : KRF S) : Xi S 904 156 = 0 := h.2.2.1 (904, 156, 0) (by decide +kernel)
theorem fr916 (h : KRF S) : ∀ i, i < 27 → Xi S 916 i = 0 := fun i hi => h.2.2.2.2 (916, 27) (by decide +kernel) i hi
theorem fr919 (h : KRF S) : ∀ i, i < 1 → Xi S 919 i = 0 := fun i hi => h.2.2.2.2 (919, 1) (by decide +kernel) i hi
theorem fr921 (h : KRF S) : ∀ i, i < 2 → Xi S 921 i = 0 := fun i hi => h.2.2.2.2 (921, 2) (by decide +kernel) i hi
theorem fr924 (h : KRF S) : ∀ i, i < 2 → Xi S 924 i = 0 := fun i hi => h.2.2.2.2 (924, 2) (by decide +kernel) i hi
theorem fr925 (h : KRF S) : ∀ i, i < 24 → Xi S 925 i = 0 := fun i hi => h.2.2.2.2 (925, 24) (by decide +kernel) i hi
theorem fr926 (h : KRF S) : ∀ i, i < 120 → Xi S 926 i = 0 := fun i hi => h.2.2.2.2 (926, 120) (by decide +kernel) i hi
theorem fr930 (h : KRF S) : ∀ i, i < 12 → Xi S 930 i = 0 := fun i hi => h.2.2.2.2 (930, 12) (by decide +kernel) i hi
theorem fr933 (h : KRF S) : ∀ i, i < 60 → Xi S 933 i = 0 := fun i hi => h.2.2.2.2 (933, 60) (by decide +kernel) i hi
theorem fr940 (h : KRF S) : ∀ i, i < 3456 → Xi S 940 i = 0 := fun i hi => h.2.2.2.2 (940, 3456) (by decide +kernel) i hi
theorem fc10 (h : KCF U) : ∀ i, i < 2 → Xi U 10 i = 0 := fun i hi => h.2.2.2.2 (10, 2) (by decide +kernel) i hi
theorem fc22 (h : KCF U) : ∀ i, i < 1 → Xi U 22 i = 0 := fun i hi => h.2.2.2.2 (22, 1) (by decide +kernel) i hi
theorem kz_a : ∀ r, r < 40 → (25 + r, 24) ∈ kZc := by decide +kernel
theorem kz_p : ∀ r, r < 40 → (66 + r, 12) ∈ kZc := by decide +kernel
theorem kz_r : ∀ r, r < 6 → (189 + r, 24) ∈ kZc := by decide +kernel
theorem ki_w : ∀ r, r < 24 → (196 + r, [-1, -1, -1, -1, -1, -1]) ∈ kIc := by decide +kernel
theorem fcA (h : KCF U) {r a : Nat} (hr : r < 40) (ha : a < 24) : Xi U (25 + r) a = 0 := h.2.2.2.2 _ (kz_a r hr) a ha
theorem fcP (h : KCF U) {r a : Nat} (hr : r < 40) (ha : a < 12) : Xi U (66 + r) a = 0 := h.2.2.2.2 _ (kz_p r hr) a ha
theorem fcR (h : KCF U) {r a : Nat} (hr : r < 6) (ha : a < 24) : Xi U (189 + r) a = 0 := h.2.2.2.2 _ (kz_r r hr) a ha
theorem fcW (h : KCF U) {r d : Nat} (hr : r < 24) (hd : d < 6) : Xi U (196 + r) d = -1 := by
  have t := h.1 _ (ki_w r hr) d hd
  rw [t]
  rcases (by omega : d = 0 ∨ d = 1 ∨ d = 2 ∨ d = 3 ∨ d = 4 ∨ d = 5) with e | e | e | e | e | e <;> rw [e] <;> rfl
theorem gw_c : ∀ c, c < 6 → (887, 8 * c, qgw.getD c 0) ∈ kGc := by decide +kernel
theorem gs_r : ∀ c, c < 6 → (948, 8 * c, qgs.getD c 0) ∈ kGr := by decide +kernel
theorem gz_r : ∀ c, c < 6 → 1 ≤ c → (948, 8 * c + 1, 0) ∈ kGr := by decide +kernel
theorem g6_r : ((948, 48, 0) : Nat × Nat × Int) ∈ kGr := by decide +kernel
/-- one entry of both vocabularies, on the lists -/
abbrev WEl (i k : Nat) : Prop := sg7 (qr914.getD k 0) = qc3.getD i 0 ∧ qr915.getD k 0 = qc4.getD i 0 ∧ (1 ≤ qr912.getD k 0 ∧ qr912.getD k 0 ≤ 3) ∧ (∀ j : Nat, j < 3 → (0 ≤ qc2.getD (3 * i + j) 0 ∧ qc2.getD (3 * i + j) 0 < 27 ^ 13) ∧ ((j : Int) < qr912.getD k 0 → 0 < qc2.getD (3 * i + j) 0) ∧ (qr912.getD k 0 ≤ (j : Int) → qc2.getD (3 * i + j) 0 = 0)) ∧ ∀ j : Nat, j < 3 → (j : Int) < qr912.getD k 0 → qr913.getD (3 * k + j) 0 = cv (qc2.getD (3 * i + j) 0)
theorem wel_c : ∀ i, i < 27 → qp.getD i 0 < 27 ∧ WEl i (qp.getD i 0) := by decide +kernel
theorem wel_r : ∀ k, k < 27 → qi.getD k 0 < 27 ∧ WEl (qi.getD k 0) k := by decide +kernel
theorem lw_l : ∀ t, t < 81 → qc2.getD t 0 < 150094635296999121 := by decide +kernel
theorem we_l (h : KCF U) (g : KRF S) {i k : Nat} (hi : i < 27) (hk : k < 27) (w : WEl i k) : WE U S i k := by
  obtain ⟨w1, w2, w3, w4, w5⟩ := w
  have e16 := fr916 g k hk
  have e12 := fr912 g k hk
  have e2 : ∀ j, j < 3 → Xj U 2 (3 * i + j) = qc2.getD (3 * i + j) 0 := fun j hj => fc2 h _ (by omega)
  refine ⟨by rw [fr914 g k hk, fc3 h i hi]; exact w1, by rw [fr915 g k hk, fc4 h i hi]; exact w2, by rw [e12]; exact w3, fun j hj => ?_, fun _ j hj => ?_, fun q => absurd e16 q, fun _ j hj => by rw [e2 j hj]; exact lw_l _ (by omega)⟩
  · rw [e2 j hj, e12]; exact w4 j hj
  · rw [e12] at hj
    have l : j < 3 := by omega
    rw [e2 j l, fr913 g _ (by omega)]
    exact w5 j l hj
theorem unw_l : ∀ i, i < 27 → ∀ j, j < 27 → (∀ t, t < 3 → qc2.getD (3 * i + t) 0 = qc2.getD (3 * j + t) 0) → i = j := by decide +kernel
theorem usw_l : ∀ i, i < 27 → ∀ j, j < 27 → qc3.getD i 0 = qc3.getD j 0 → qc4.getD i 0 = qc4.getD j 0 → i = j := by decide +kernel
theorem cen_l : ∀ i, i < 27 → (0 ≤ qc3.getD i 0 ∧ qc3.getD i 0 ≤ 14) ∧ 0 ≤ qc4.getD i 0 ∧ qc4.getD i 0 ≤ 63 := by decide +kernel
theorem whc_l : ∀ i, i < 27 → qc4.getD i 0 < (if qc3.getD i 0 = 11 then 5 else if qc3.getD i 0 = 12 then 2 else if qc3.getD i 0 = 13 then 0 else if qc3.getD i 0 = 14 then 6 else if qc3.getD i 0 = 9 ∨ qc3.getD i 0 = 10 then 0 else qc5.getD (qc3.getD i 0).toNat 0) := by decide +kernel
theorem s8_l : ∀ i, i < 27 → qc3.getD i 0 = 11 ∨ qc3.getD i 0 = 12 ∨ qc3.getD i 0 = 13 ∨ qc3.getD i 0 = 14 ∨ qc3.getD i 0 ≤ 8 := by decide +kernel
theorem gb_l : ∀ k : Nat, k < 5 → ∀ p : Nat, p < 12 → (gb (qc7.getD k 0) (p : Int) = true ↔ qr929.getD (12 * k + p) 0 ≠ 0) := by decide +kernel
theorem hs_l : ∀ k, k < 5 → ∀ p, p < 12 → qr929.getD (12 * k + p) 0 ≠ 0 → p < 1 := by decide +kernel
theorem kd_l : ∀ k, k < 5 → qc6.getD k 0 = qr917.getD k 0 ∧ -1 ≤ qr917.getD k 0 ∧ qr917.getD k 0 < (k : Int) := by decide +kernel
theorem k7_l : ∀ k, k < 5 → 0 ≤ qc7.getD k 0 ∧ qc7.getD k 0 < 4096 := by decide +kernel
theorem ak_l : ∀ k, k < 5 → qc19.getD k 0 = qr942.getD k 0 ∧ -2 ≤ qc19.getD k 0 ∧ qc19.getD k 0 < 5 := by decide +kernel
theorem cm_l : ∀ c, c < 7 → (qc883.getD c 0 = qr946.getD c 0 ∧ 0 ≤ qc883.getD c 0 ∧ qc883.getD c 0 < 5) ∧ (qc884.getD c 0 = qr947.getD c 0 ∧ 1 ≤ qc884.getD c 0 ∧ qc884.getD c 0 ≤ 8) ∧ (qc886.getD c 0 = qr949.getD c 0 ∧ -2 ≤ qc886.getD c 0 ∧ qc886.getD c 0 < 5) ∧ (qc885.getD c 0 = -1 ∨ (0 ≤ qc885.getD c 0 ∧ qc885.getD c 0 < qc884.getD c 0)) ∧ ((qc885.getD c 0 = -1 ↔ qc886.getD c 0 = -1) ∧ (qc19.getD (qc883.getD c 0).toNat 0 = -1 ↔ qc886.getD c 0 = -1) ∧ (qc19.getD (qc883.getD c 0).toNat 0 = -2 ↔ qc886.getD c 0 = -2) ∧ (0 ≤ qc19.getD (qc883.getD c 0).toNat 0 → qc886.getD c 0 = qc19.getD (qc883.getD c 0).toNat 0)) := by decide +kernel
theorem cm_m : ∀ c, c < 7 → (c = 0 → qc884.getD c 0 = 1 ∧ qc885.getD c 0 = -1) ∧ (c = 6 → qc884.getD c 0 = 1 ∧ qc885.getD c 0 = 0) ∧ (1 ≤ c → c < 6 → qc884.getD c 0 = 2 ∧ qc885.getD c 0 = 1) := by decide +kernel
theorem cw_l : ∀ c, c < 6 → (0 < qgw.getD c 0 ∧ qgw.getD c 0 < 150094635296999121) ∧ qgs.getD c 0 = cv (qgw.getD c 0) := by decide +kernel
theorem isk_self {x : Int} (h : 0 ≤ x) : isK U x x = 1 := by
  unfold isK isKn
  rw [if_neg (by omega), if_pos rfl]
theorem fcC (h : KCF U) : Xi U 5 0 = 5 ∧ Xi U 5 1 = 2 ∧ Xi U 5 2 = 1 ∧ Xi U 5 3 = 2 ∧ Xi U 5 4 = 0 ∧ Xi U 5 5 = 1 ∧ Xi U 5 6 = 0 ∧ Xi U 5 7 = 0 ∧ Xi U 5 8 = 5 := ⟨fc5 h 0 (by decide), fc5 h 1 (by decide), fc5 h 2 (by decide), fc5 h 3 (by decide), fc5 h 4 (by decide), fc5 h 5 (by decide), fc5 h 6 (by decide), fc5 h 7 (by decide), fc5 h 8 (by decide)⟩
theorem rla_0 (h : KCF U) (g : KRF S) (hS : HI S) (t3 : TX3 U) : RLA U S := by
  obtain ⟨c0, c1, c2, c3, c4, c5, c6, c7, c8⟩ := fcC h
  have n1 := fc1_3 h
  have n2 := fr904_15 g
  have wc : ∀ i : Nat, i < 27 → Xi U 4 i < wcU U (Xi U 3 i) := fun i hi => by
    have w := whc_l i hi
    rw [fc4 h i hi, fc3 h i hi]
    unfold wcU
    rcases s8_l i hi with s | s | s | s | s
    · rw [if_pos s] at w ⊢; rw [c0]; exact w
    · rw [if_neg (by omega), if_pos s] at w ⊢; rw [c1]; exact w
    · rw [if_neg (by omega), if_neg (by omega), if_pos s] at w ⊢; rw [c7]; exact w
    · rw [if_neg (by omega), if_neg (by omega), if_neg (by omega), if_pos s] at w ⊢; exact w
    · have s0 := (cen_l i hi).1.1
      rw [if_neg (by omega), if_neg (by omega), if_neg (by omega), if_neg (by omega), if_neg (by omega)] at w ⊢
      rw [fc5 h _ (by omega)]
      exact w
  have r12 : ∀ k : Nat, k < 27 → Xi S 914 k = qr914.getD k 0 := fr914 g
  have voc : VOC U S := by
    refine ⟨⟨by omega, by omega⟩, fun i hi => ?_, fun k hk => ?_, fun i j hi hj q => ?_⟩
    · have w := wel_c i (by omega)
      exact ⟨_, by omega, we_l h g (by omega) w.1 w.2⟩
    · have w := wel_r k (by omega)
      exact ⟨_, by omega, we_l h g w.1 (by omega) w.2⟩
    · refine unw_l i (by omega) j (by omega) (fun t ht => ?_)
      have u := q t ht
      rw [fc2 h _ (by omega), fc2 h _ (by omega)] at u
      exact u
  have lw3 : LW3 U := fun i hi w x y hw => by
    have b : ∀ t, t < 3 → Xj U 2 (3 * i + t) < 150094635296999121 := fun t ht => by rw [fc2 h _ (by omega)]; exact lw_l _ (by omega)
    have b0 := b 0 (by decide)
    have b1 := b 1 (by decide)
    have b2 := b 2 (by decide)
    rw [Nat.add_zero] at b0
    exact ⟨fun m => by have := m.1; omega, fun m => by have := m.2.1; omega, fun m => by have := m.2.2; omega⟩
  have z0 : ∀ o : Nat, (o : Int) < Xi U 5 2 → o = 0 := fun o ho => by omega
  refine ⟨⟨⟨voc, fun i j hi hj a b => ?_, fun i hi => ?_, hi_lx hS, lw3⟩, fun i hi => wc i (by omega), ?_, ⟨⟨?_, ?_, ?_⟩, fun k hk => ?_⟩, ⟨fun i hi => ?_, fun i hi => ?_, fun k p hk hp q => ?_, fun t => ?_⟩, fun a ha => ?_, fun r hr => ?_, fun r a b hr ha hb => ?_, ⟨fun i hi => ?_, fun i hi => ?_⟩, ⟨⟨?_, fun o ho => ?_⟩, fun o ho => ?_⟩, ⟨fun _ => 0, fun o ho q => ?_⟩, ⟨fun o ho a ha => ?_, fun k hk a ha => ?_, fun o ho _ a ha => ?_, fun k hk _ a ha => ?_⟩, ⟨fun o p ho hp => ?_, fun k p hk hp => ?_, fun o ho _ p hp => ?_, fun k hk _ p hp => ?_⟩, ⟨?_, fun k hk => ?_, fun r d hr hd q => ?_⟩, ?_⟩, t3, ⟨?_, fun c hc => ?_⟩, ?_, fun a ha q => ?_, fun r hr => ?_⟩
  · exact usw_l i (by omega) j (by omega) (by rw [← fc3 h i (by omega), ← fc3 h j (by omega)]; exact a) (by rw [← fc4 h i (by omega), ← fc4 h j (by omega)]; exact b)
  · rw [fc3 h i (by omega), fc4 h i (by omega)]; exact cen_l i (by omega)
  · have a0 := fr904_16 g
    have a1 := fr904_18 g
    have a2 := fr904_19 g
    have a3 := fr904_23 g
    have a4 := fr904_30 g
    have a5 := fr904_32 g
    have a6 := fr904_41 g
    have a7 := fr904_47 g
    have a8 := fr904_49 g
    unfold RCT
    omega
  · rw [c0, fr904_16 g]
  · omega
  · omega
  · have u := kd_l k (by omega)
    rw [fc6 h k (by omega), fr917 g k (by omega), fc7 h k (by omega)]
    refine ⟨u.1, ⟨u.2, k7_l k (by omega)⟩, fun p p0 p1 => ?_⟩
    have v := gb_l k (by omega) p.toNat (by omega)
    rw [show ((p.toNat : Nat) : Int) = p by omega] at v
    rw [fr929 g _ (by omega), show (12 * (k : Int) + p).toNat = 12 * k + p.toNat by omega]
    exact v
  · omega
  · rw [show i = 0 by omega, fc9 h 0 (by decide), fr928 g 0 (by decide), c1]
    decide
  · rw [fr929 g _ (by omega)] at q
    have := hs_l k (by omega) p hp q
    omega
  · show valn U t (Xi U 5 4).toNat 0 0 ≤ 8
    rw [c4]
    show (0 : Int) ≤ 8
    decide
  · have e : a = 0 ∨ a = 1 := by omega
    rw [fc10 h a (by omega), fr921 g a (by omega), fc11 h a (by omega), fr922 g a (by omega), fr924 g a (by omega), c0, c3]
    rcases e with e | e <;> rw [e] <;> (refine ⟨by decide, by decide, by decide, by decide, fun q => absurd q (by decide)⟩)
  · omega
  · rw [fcR h hr ha]
    refine ⟨fun q => (by rw [gb_0] at q; cases q), fun hb2 => ?_⟩
    rw [fr940 g _ (by omega), gb_0]
    exact ⟨fun q => (by cases q), fun q => absurd rfl q⟩
  · omega
  · have u := ak_l i (by omega)
    rw [fc19 h i (by omega), fr942 g i (by omega), c0]
    exact u
  · rw [c2, fr904_19 g]
  · rw [z0 o ho, fc21 h 0 (by decide), fr918 g 0 (by decide), c0]
    decide
  · rw [z0 o ho, fc22 h 0 (by decide), fr919 g 0 (by decide), fc23 h 0 (by decide), fr920 g 0 (by decide), c2]
    decide
  · rw [z0 o ho, fc23 h 0 (by decide)] at q
    exact absurd q (by decide)
  · rw [show ((o : Nat) : Int).toNat = o by omega, fcA h (by omega) ha, z0 o ho]
    refine Or.inr (Or.inr ⟨rfl, ?_⟩)
    exact fr925 g _ (by omega)
  · rw [show (24 + (k : Int)).toNat = 24 + k by omega, fcA h (by omega) ha]
    refine Or.inr (Or.inr ⟨rfl, ?_⟩)
    exact fr926 g _ (by omega)
  · exact fcA h (by omega) ha
  · rw [show 49 + k = 25 + (24 + k) by omega]; exact fcA h (by omega) ha
  · have e1 : Xi U (66 + ((o : Nat) : Int).toNat) ((p : Nat) : Int).toNat = 0 := by rw [show ((o : Nat) : Int).toNat = o by omega, show ((p : Nat) : Int).toNat = p by omega]; exact fcP h (by omega) hp
    have e2 : Xi S 930 (12 * o + p) = 0 := fr930 g _ (by omega)
    have e3 : Xi S 930 ((12 * (o : Int) + (p : Int))).toNat = 0 := by rw [show (12 * (o : Int) + (p : Int)).toNat = 12 * o + p by omega]; exact e2
    exact ⟨⟨⟨fun _ => e3, fun _ => e1⟩, fun q => absurd e3 q⟩, fun q => absurd e2 q⟩
  · have e1 : Xi U (66 + (24 + (k : Int)).toNat) ((p : Nat) : Int).toNat = 0 := by rw [show (24 + (k : Int)).toNat = 24 + k by omega, show ((p : Nat) : Int).toNat = p by omega]; exact fcP h (by omega) hp
    have e2 : Xi S 933 (12 * k + p) = 0 := fr933 g _ (by omega)
    have e3 : Xi S 933 ((12 * (k : Int) + (p : Int))).toNat = 0 := by rw [show (12 * (k : Int) + (p : Int)).toNat = 12 * k + p by omega]; exact e2
    exact ⟨⟨⟨fun _ => e3, fun _ => e1⟩, fun q => absurd e3 q⟩, fun q => absurd e2 q⟩
  · exact fcP h (by omega) hp
  · rw [show 90 + k = 66 + (24 + k) by omega]; exact fcP h (by omega) hp
  · rw [fc20_12 h, fr904_51 g]; decide
  · have := fr904_51 g; omega
  · exact absurd (fcW h hr hd) q
  · have := fc891_10 h
    have := fr904_60 g
    exact ⟨by omega, by omega, by omega⟩
  · rw [fc882_3 h, fr904_55 g]; decide
  · have l : c < 7 := by have := fc882_3 h; omega
    obtain ⟨m1, m2, m3, m4, m5, m6, m7, m8⟩ := cm_l c l
    obtain ⟨m9, m10, m11⟩ := cm_m c l
    have e3 := fc883 h c l
    have e4 := fc884 h c l
    have e5 := fc885 h c l
    have e6 := fc886 h c l
    have r6 := fr946 g c l
    have r7 := fr947 g c l
    have r9 := fr949 g c l
    have k3 : (Xi U 883 c).toNat < 5 := by omega
    have e19 := fc19 h _ k3
    rw [e3] at e19
    unfold CM1
    rw [e3, e4, e5, e6, r6, r7, r9, c8, c0, e19]
    refine ⟨m1, m2, m3, m4, ⟨m5, m6, m7, fun q => ?_⟩, fun j hj => ?_⟩
    · rw [m8 q, isk_self q]; decide
    · rcases (by omega : c = 0 ∨ c = 6 ∨ (1 ≤ c ∧ c < 6)) with w | w | w
      · obtain ⟨s1, s2⟩ := m9 w
        have j0 : j = 0 := by omega
        have u := cw_l c (by omega)
        have g1 := h.2.2.2.1 _ (gw_c c (by omega))
        have g2 := g.2.2.2.1 _ (gs_r c (by omega))
        rw [j0, Nat.add_zero]
        exact ⟨fun q => by omega, fun _ => ⟨by rw [g1]; exact u.1, by rw [g2, g1]; exact u.2⟩⟩
      · obtain ⟨s1, s2⟩ := m10 w
        have j0 : j = 0 := by omega
        have g2 := g.2.2.2.1 _ g6_r
        subst w
        rw [j0, Nat.add_zero]
        exact ⟨fun _ => g2, fun q => by omega⟩
      · obtain ⟨s1, s2⟩ := m11 w.1 w.2
        have u := cw_l c w.2
        have g1 := h.2.2.2.1 _ (gw_c c w.2)
        have g2 := g.2.2.2.1 _ (gs_r c w.2)
        have g3 := g.2.2.2.1 _ (gz_r c w.2 w.1)
        rcases (by omega : j = 0 ∨ j = 1) with j0 | j1
        · rw [j0, Nat.add_zero]
          exact ⟨fun q => by omega, fun _ => ⟨by rw [g1]; exact u.1, by rw [g2, g1]; exact u.2⟩⟩
        · rw [j1]
          exact ⟨fun _ => g3, fun q => by omega⟩
  · have b1 := fc246_5 h
    have b2 := fc246_2 h
    have b3 := fc246_8 h
    have b4 := fr904_117 g
    have b5 := fr904_125 g
    have b6 := fr904_130 g
    unfold BKC
    omega
  · have e : a = 0 ∨ a = 1 := by omega
    rw [fc11 h a (by omega)] at q
    rcases e with e | e <;> rw [e] at q <;> exact absurd q (by decide)
  · have := fc246_2 h; omega
end
end
section
/-! both begin to read, and read alike -/
theorem kc_876 : (∀ q ∈ kIc, q.1 ≠ 876) ∧ (∀ q ∈ kJc, q.1 ≠ 876) ∧ (∀ q ∈ kFc, q.1 ≠ 876) ∧ (∀ q ∈ kGc, q.1 ≠ 876) ∧ ∀ q ∈ kZc, q.1 ≠ 876 := by decide +kernel
theorem kr_904 : (∀ q ∈ kIr, q.1 ≠ 904) ∧ (∀ q ∈ kFr, q.1 = 904 → q.2.1 ≠ 8 ∧ q.2.1 ≠ 61 ∧ q.2.1 ≠ 62) ∧ ∀ q ∈ kZr, q.1 ≠ 904 := by decide +kernel
theorem kcf_k {B U : sS} (h : KCF B) (e : ∀ k j : Nat, k ≠ 876 → Xi U k j = Xi B k j ∧ Xj U k j = Xj B k j) : KCF U := by
  obtain ⟨n1, n2, n3, n4, n5⟩ := kc_876
  exact ⟨fun q hq i hi => by rw [(e _ i (n1 q hq)).1]; exact h.1 q hq i hi, fun q hq i hi => by rw [(e _ i (n2 q hq)).2]; exact h.2.1 q hq i hi, fun q hq => by rw [(e _ _ (n3 q hq)).1]; exact h.2.2.1 q hq, fun q hq => by rw [(e _ _ (n4 q hq)).2]; exact h.2.2.2.1 q hq, fun q hq i hi => by rw [(e _ i (n5 q hq)).1]; exact h.2.2.2.2 q hq i hi⟩
theorem krf_k {B S : sS} (h : KRF B) (e : ∀ k j : Nat, (k = 904 → j ≠ 8 ∧ j ≠ 61 ∧ j ≠ 62) → Xi S k j = Xi B k j) (e2 : ∀ k j : Nat, Xj S k j = Xj B k j) : KRF S := by
  obtain ⟨n1, n3, n5⟩ := kr_904
  exact ⟨fun q hq i hi => by rw [e _ i (fun w => absurd w (n1 q hq))]; exact h.1 q hq i hi, fun q hq i hi => by rw [e2]; exact h.2.1 q hq i hi, fun q hq => by rw [e _ _ (n3 q hq)]; exact h.2.2.1 q hq, fun q hq => by rw [e2]; exact h.2.2.2.1 q hq, fun q hq i hi => by rw [e _ i (fun w => absurd w (n5 q hq))]; exact h.2.2.2.2 q hq i hi⟩
theorem open_kc {U0 : sS} {ts : Nat} (op : OPN U0 ts) : KCF U0 := by
  obtain ⟨B, C, ⟨A, hA, ev, _⟩, eC, FO⟩ := op
  refine kcf_k (kn_c hA ev) (fun k j hk => ?_)
  have m : mdf md_to_open k j = false := by unfold mdf inR md_to_open; simp; omega
  have u := FO.x k j m
  have v := FO.xj k j m
  rw [eC] at u v
  exact ⟨u, v⟩
theorem rs0_x {B : sS} {k j : Nat} (h : k = 904 → j ≠ 8 ∧ j ≠ 61 ∧ j ≠ 62) : Xi (rs0 B) k j = Xi B k j := by
  unfold rs0
  rw [Xi_ne (by omega), Xi_ne (by omega), Xi_ne (by omega)]
theorem jok_0 {Q U0 B : sS} {ts n : Nat} {e : Int} (ht : tp ts) (hU : HI U0) (op : OPN U0 ts) (u5 : Xi U0 876 5 = e) (u8 : Xi U0 876 8 = 0) (s20 : U0.2.2 20 1 = some ts) (hB : HI B) (bg : BGS Q B n) (eQ : Xi Q 904 1 = e) (yt : ∀ j : Nat, (j : Int) < e → Xi U0 ts j = Xi Q 905 j) (ky : KEYR (Xj U0 880) (Xj Q 911)) : JOK ts n e U0 (rs0 B) (sk7 (Xi U0 ts) e 0) 0 := by
  obtain ⟨C, hC, ⟨tk, _, ct, e3, b6, kQ⟩, ev, FB⟩ := bg
  have hR : HI (rs0 B) := HI_w (HI_w (HI_w hB (by decide) (by decide)) (by decide) (by decide)) (by decide) (by decide)
  have kr : KRF (rs0 B) := krf_k (kn_r hC ev) (fun k j h => rs0_x h) (fun k j => rfl)
  have FR0 : FR [(904, 905, 62, 63), (904, 905, 61, 62), (904, 905, 8, 9)] B (rs0 B) := FR.wI (FR.wI (FR.wI FR.rf rfl) rfl) rfl
  have kC : KEP [(906, 912)] [] C (rs0 B) := KEP.tr (FB.kep rfl) (FR0.kep rfl)
  have j6 : Xi (rs0 B) 906 = Xi C 906 := funext fun j => kC.x 906 rfl j
  have j11 : Xj (rs0 B) 911 = Xj C 911 := funext fun j => kC.j 911 rfl j
  have q11 : Xj C 911 = Xj Q 911 := funext fun j => kQ.j 911 rfl j
  have be : BE (Xi U0 ts) (Xi C 906) e := fun j hj => by rw [yt j hj, b6 j (by omega)]
  rw [e3, eQ] at ct
  have z8 : Xi (rs0 B) 904 8 = 0 := Xi_same (by unfold rg; omega)
  have z61 : Xi (rs0 B) 904 61 = 0 := by unfold rs0; rw [Xi_ne (by omega)]; exact Xi_same (by unfold rg; omega)
  have z62 : Xi (rs0 B) 904 62 = 0 := by unfold rs0; rw [Xi_ne (by omega), Xi_ne (by omega)]; exact Xi_same (by unfold rg; omega)
  have x : TXB U0 (rs0 B) ts n e := by
    refine ⟨hU, by rw [j11, q11]; exact ky, by rw [j6]; exact be, u5, ?_, ?_⟩
    · rw [j6, j11]
      exact cut_k (kC.le rfl (by decide)) ct
    · unfold TK at tk ⊢
      simp only [kC.x 907 rfl, kC.x 908 rfl]
      exact tk
  have t3 : TX3 U0 := by
    have et : txr U0 = ts := by unfold txr; rw [s20]; rfl
    unfold TX3
    rw [et]
    rcases ht with q | q
    · exact Or.inr (Or.inl q)
    · exact Or.inr (Or.inr q)
  have sk := sk7_c2 be (p := 0) (Int.le_refl _)
  refine ⟨⟨u8, z62, z61⟩, x, rla_0 (open_kc op) kr hR t3, trivial, 0, z8, Nat.zero_le _, fun hn => ?_, fun hn => ?_⟩
  · rw [kC.x 908 rfl, sk]
    have u := ct.1.1 (by omega)
    have v := (ct.1.2.1 0 (by omega)).2.1
    exact ⟨u, by rw [← u]; exact v⟩
  · rw [sk]; exact ct.2.2.2.1 hn.symm
/-- the story's bytes stay -/
theorem cst_f {ts : Nat} {U U1 : sS} {a a1 : Int} (c : CST ts U a U1 a1) : KEP [(880, 881), (902, 904)] [(876, 5)] U U1 := by
  obtain ⟨V, z, h | ⟨W, d, h, h0, h1, h2⟩⟩ := c
  · exact KEP.tr (h.1.2.1.2.1.kep rfl) (h.2.2.1.kep rfl)
  · have k : KEP [(880, 881), (902, 904)] [(876, 5)] U W := KEP.tr (h.1.2.1.2.1.kep rfl) (h.2.2.2.1.kep rfl)
    rcases h.2.2.2.2.1 with e | e
    · exact KEP.tr k ((h0 e).1.kep rfl)
    · by_cases s : Xi W 890 2 < 9
      · obtain ⟨_, F, _⟩ := h1 e s
        exact KEP.tr k (F.kep rfl)
      · obtain ⟨_, F, _⟩ := h2 e (by omega)
        exact KEP.tr k (F.kep rfl)
theorem pch_f {ts : Nat} {U0 : sS} {a0 : Int} : ∀ (n : Nat) {U : sS} {a : Int}, PCH ts U0 a0 n U a → KEP [(880, 881), (902, 904)] [(876, 5)] U0 U
  | 0, U, a, h => by
    obtain ⟨rfl, _⟩ := h
    exact KEP.rf
  | n + 1, U, a, h => by
    obtain ⟨X, b, h1, s⟩ := h
    exact KEP.tr (pch_f n h1) (cst_f s)
/-- what both have read: the same fault, or both worlds agree -/
def RDD (U R : sS) (N : Int) : Prop := (SMF U R ∨ (Xi U 876 8 = 0 ∧ Xi R 904 62 = 0 ∧ Xi R 904 61 = N ∧ RLA U R))
theorem rd_two {S Q U R : sS} {ts : Nat} {N : Int} (ht : tp ts) (e1 : Xi S 0 10 = Xi Q 904 1) (ky : KEYR (Xj S 880) (Xj Q 911)) (yt : ∀ j : Nat, (j : Int) < Xi S 0 10 → Xi S ts j = Xi Q 905 j) (kS : (∀ j : Nat, Xj U 880 j = Xj S 880 j) ∧ (∀ j : Nat, Xi U 902 j = Xi S 902 j) ∧ ∀ j : Nat, Xi U 903 j = Xi S 903 j) (r : RTX S ts N U) (s : SRY Q R) : (N = 0 → Xi U 876 8 = 0 ∧ Xi U 876 5 = Xi S 0 10 ∧ Xi R 904 62 = 2 ∧ Xi R 904 63 = Xi S 0 10) ∧ (N ≠ 0 → 0 < N ∧ RDD U R N) := by
  obtain ⟨a, ⟨U0, a0, n0, ⟨hU, _, s20⟩, op, u5, u8, ea, pc⟩, st⟩ := r
  obtain ⟨n, B, hB, bg, _, _, ry, sr⟩ := s
  have kU := pch_f _ pc
  have k0 : Xj U0 880 = Xj S 880 := funext fun j => (kU.j 880 rfl j).symm.trans (kS.1 j)
  have kt : Xi U0 ts = Xi S ts := by
    funext j
    rcases ht with q | q <;> rw [q]
    · exact (kU.x 902 rfl j).symm.trans (kS.2.1 j)
    · exact (kU.x 903 rfl j).symm.trans (kS.2.2 j)
  have j0 : JOK ts n (Xi S 0 10) U0 (rs0 B) (sk7 (Xi U0 ts) (Xi S 0 10) 0) 0 := jok_0 ht hU op u5 u8 s20 hB bg e1.symm (fun j hj => by rw [kt]; exact yt j hj) (by rw [k0]; exact ky)
  rw [u5] at ea
  rw [← ea] at j0
  have tkn := j0.2.1.2.2.2.2.2
  have rb : Xi (rs0 B) 907 0 = Xi B 907 0 := rs0_x (fun w => absurd w (by decide))
  have n1 : Xi B 907 0 = 1 ↔ n = 0 := by
    rw [← rb]
    constructor
    · intro q
      by_cases w : n = 0
      · exact w
      · exact absurd q (tkn.2.2.1 0 (by omega))
    · intro q
      have t := tkn.2.1
      rw [q] at t
      exact t
  have h10 : Xi U 876 5 = Xi S 0 10 := by rw [kU.f 876 5 (by decide)]; exact u5
  rcases ry with ⟨w, K, rc⟩ | ⟨w, fl⟩
  · -- there are tokens: both go on
    have nn : n ≠ 0 := fun q => w (n1.2 q)
    obtain ⟨g1, g2⟩ := rd_all ht N.toNat K j0 (by
      obtain ⟨_, _, _, _, f, e8, fn, p1, p2⟩ := j0
      have z8 : Xi (rs0 B) 904 8 = 0 := Xi_same (by unfold rg; omega)
      have f0 : f = 0 := by omega
      have u := (p1 (by omega)).1
      have v := (hB.c 908 0).1
      rw [f0, rs0_x (fun w => absurd w (by decide))] at u
      have v : 0 ≤ Xi B 908 0 := v
      omega) (pch_s _ pc) (rc7_s _ rc) (by rw [show (0 : Int) + ((N.toNat : Nat) : Int) = N by omega]; exact st) sr
    rw [show (0 : Int) + ((N.toNat : Nat) : Int) = N by omega] at g2
    refine ⟨fun q => ?_, fun q => ⟨by omega, ?_⟩⟩
    · -- no sentence of the class, though there are tokens: it can't be
      exfalso
      have k0 : K = 0 := by omega
      subst k0
      have rc : R = rs0 B := rc
      have z8 : Xi (rs0 B) 904 8 = 0 := Xi_same (by unfold rg; omega)
      have z62 : Xi (rs0 B) 904 62 = 0 := j0.1.2.1
      rw [rc] at sr
      refine sr ⟨z62, ?_⟩
      rw [z8]
      show Xi (rs0 B) 907 0 ≠ 1
      rw [rb]
      exact w
    · rcases g2 with g2 | ⟨g2, _⟩
      · exact Or.inl g2
      · exact Or.inr ⟨g2.1.1, g2.1.2.1, g2.1.2.2, g2.2.2.1⟩
  · -- no token at all
    have n0' := n1.1 w
    have ge : Xi S 0 10 ≤ a0 := by
      obtain ⟨_, _, _, _, f, e8, fn, _, p2⟩ := j0
      exact p2 (by omega)
    have nz : N = 0 := by
      by_cases q : N = 0
      · exact q
      · exfalso
        obtain ⟨m, hm⟩ : ∃ m, N.toNat = m + 1 := ⟨N.toNat - 1, by omega⟩
        have ps := pch_s _ pc
        rw [hm] at ps
        obtain ⟨_, _, cs, _⟩ := ps
        have := (cst_0 cs).1
        omega
    refine ⟨fun _ => ?_, fun q => absurd nz q⟩
    rw [nz] at pc
    obtain ⟨eU, _⟩ := pc
    obtain ⟨C, hC, ⟨tk, _, ct, e3, _⟩, _, FB⟩ := bg
    have p0 : Xi B 908 0 = Xi S 0 10 := by
      rw [FB.x 908 0 rfl]
      have t := ct.2.2.1
      rw [n0', e3] at t
      rw [t, e1]
    exact ⟨by rw [eU]; exact u8, h10, fl.2.2.1, by rw [fl.2.2.2]; exact p0⟩

/-- the read of both: the same answer; behind a fault both are fresh, with the same fault; else both worlds agree ahead of what ends a read -/
theorem read_same {S Q S1 Q1 : sS} {ts : Nat} {z w : Int} (ht : tp ts) (e1 : Xi S 0 10 = Xi Q 904 1) (ky : KEYR (Xj S 880) (Xj Q 911)) (yt : ∀ j : Nat, (j : Int) < Xi S 0 10 → Xi S ts j = Xi Q 905 j) (FS : FR md_rs_read__t S S1) (r : RFN S ts S1 z) (m : MRN Q Q1 w) : z = w ∧ ((KCF S1 ∧ KRF Q1 ∧ Xi S1 0 11 = Xi Q1 904 62 ∧ Xi S1 0 11 ≠ 0) ∨ (∃ U R Y : sS, RLA U R ∧ (Xi U 876 8 = 0 ∧ Xi R 904 62 = 0) ∧ EVR m_wo_placePlayer [.ref 20] (uI U 0 11 (Int32.ofInt (Xi U 876 8))) none Y ∧ EVR m_bo_putInOrder [.ref 246] Y none S1 ∧ FR md_bo_putInOrder__b Y S1 ∧ FR md_wo_placePlayer__b (uI U 0 11 (Int32.ofInt (Xi U 876 8))) Y ∧ PLZ Q Q1 w ∧ SRY Q R)) := by
  have kA : KEP [(880, 881), (902, 904)] [] S S1 := FS.kep rfl
  have back : ∀ {U : sS}, KEP [(880, 881), (902, 904)] [] U S1 → (∀ j : Nat, Xj U 880 j = Xj S 880 j) ∧ (∀ j : Nat, Xi U 902 j = Xi S 902 j) ∧ ∀ j : Nat, Xi U 903 j = Xi S 903 j := fun k => ⟨fun j => (k.j 880 rfl j).symm.trans (kA.j 880 rfl j), fun j => (k.x 902 rfl j).symm.trans (kA.x 902 rfl j), fun j => (k.x 903 rfl j).symm.trans (kA.x 903 rfl j)⟩
  rcases r with ⟨n, X, ⟨U, W, rt, w0, w1, eX⟩, f8, ez, hX, ev, FX⟩ | ⟨Y, ⟨X, ⟨U, W, rt, w0, w1, eX⟩, f8, hX, evp, FP⟩, hY, evo, FO⟩
  · -- a fault of the class
    have kW : KEP [(880, 881), (902, 904)] [] U W := by
      by_cases q : n = 0
      · exact (w0 q).1.kep rfl
      · rw [w1 q]; exact KEP.rf
    have kX : KEP [(880, 881), (902, 904)] [] W X := by rw [eX]; exact (FR.wI (m := [(0, 1, 11, 12)]) FR.rf rfl).kep rfl
    have kU := back (KEP.tr kW (KEP.tr kX (FX.kep rfl)))
    have e8 : Xi X 876 8 = Xi W 876 8 := by rw [eX, Xi_ne (by omega)]
    have r8 : 0 ≤ Xi W 876 8 ∧ Xi W 876 8 ≤ 9 := by rw [← e8]; exact hX.c 876 8
    have e11 : Xi X 0 11 = Xi W 876 8 := by rw [eX]; exact Xi_same (by unfold rg; omega)
    have s11 : Xi S1 0 11 = Xi W 876 8 := by rw [FX.x 0 11 rfl]; exact e11
    have s9 : Xi S1 876 9 = Xi W 876 9 := by rw [FX.x 876 9 rfl, eX, Xi_ne (by omega)]
    rw [e8] at f8
    have kc := kn_c hX ev
    -- what the reference finds
    have key : ∀ R : sS, SRY Q R → Xi R 904 62 = Xi W 876 8 ∧ Xi R 904 63 = Xi W 876 9 := fun R sR => by
      obtain ⟨g0, g1⟩ := rd_two ht e1 ky yt kU rt sR
      by_cases q : n = 0
      · obtain ⟨a1, a2, a3, a4⟩ := g0 q
        obtain ⟨b1, b2⟩ := (w0 q).2.2.1 a1
        refine ⟨by rw [a3, b1], ?_⟩
        rw [a4, b2, ← a2]
        exact (if_neg (by omega)).symm
      · have eW := w1 q
        subst eW
        rcases (g1 q).2 with h | h
        · exact ⟨h.2.1, h.2.2⟩
        · exact absurd h.1 f8
    rcases m with ⟨R, sR, h62, ew, evr, FB⟩ | ⟨R, sR, h62, _⟩
    · obtain ⟨k1, k2⟩ := key R sR
      have q62 : Xi Q1 904 62 = Xi R 904 62 := FB.x 904 62 rfl
      have q63 : Xi Q1 904 63 = Xi R 904 63 := FB.x 904 63 rfl
      refine ⟨by rw [ez, ew, s9, q63, k2], Or.inl ⟨kc, kn_r (by obtain ⟨_, _, _, _, _, h, _⟩ := sR; exact h) evr, by rw [s11, q62, k1], by rw [s11]; exact f8⟩⟩
    · exact absurd ((key R sR).1.symm.trans h62) f8
  · -- none
    have e8 : Xi X 876 8 = Xi W 876 8 := by rw [eX, Xi_ne (by omega)]
    have z0 : z ≠ 0 := fun q => by
      obtain ⟨a, ⟨U0, a0, n0, _, _, _, u8, _, pc⟩, _⟩ := rt
      rw [q] at pc
      obtain ⟨eU, _⟩ := pc
      have b := ((w0 q).2.2.1 (by rw [eU]; exact u8)).1
      rw [e8, b] at f8
      exact absurd f8 (by decide)
    have eW := w1 z0
    subst eW
    have kX : KEP [(880, 881), (902, 904)] [] W X := by rw [eX]; exact (FR.wI (m := [(0, 1, 11, 12)]) FR.rf rfl).kep rfl
    have kU := back (KEP.tr kX (KEP.tr (FP.kep rfl) (FO.kep rfl)))
    rw [e8] at f8
    have key : ∀ R : sS, SRY Q R → Xi R 904 62 = 0 ∧ Xi R 904 61 = z ∧ RLA W R := fun R sR => by
      obtain ⟨_, g1⟩ := rd_two ht e1 ky yt kU rt sR
      rcases (g1 z0).2 with h | h
      · exact absurd f8 h.1
      · exact h.2
    rcases m with ⟨R, sR, h62, _⟩ | ⟨R, sR, h62, ew, pl⟩
    · exact absurd (key R sR).1 h62
    · obtain ⟨k1, k2, k3⟩ := key R sR
      rw [eX] at evp FP
      exact ⟨by rw [ew, k2], Or.inr ⟨W, R, Y, k3, ⟨f8, k1⟩, evp, evo, FO, FP, ⟨R, sR, h62, ew, pl⟩, sR⟩⟩
end
section
/-! feed: the bytes of both -/
def l2iF (x : Int) : Int := (Int64.ofInt x).toInt32.toInt
theorem l_l2iF {lay : Nat → Nat × Nat} {d : Nat} {q : mT} {pc : Nat} {L : List (Nat × Value)} {st : List Value} {S : sS} {Q : pst} {x : Int} (hc : lk q.2.2.2.2.2 pc = some .l2i) (h : Rl lay d q (pc + 1) L (iv (l2iF x) :: st) S Q) : Rl lay d q pc L (jw x :: st) S Q :=
  Rl_s hc rfl (fun lv ha => ⟨lv, by
    show some (pc + 1, lv, Value.int (Int64.ofInt x).toInt32 :: st, S) = _
    rw [← ofI_toI (v := (Int64.ofInt x).toInt32)]; rfl, ha⟩) h
def by8 (x : Int) : Int := (l2iF x).bmod 256
theorem by8_i {x c : Int} (h : (-128 ≤ c ∧ c ≤ 127) ∧ (l2iF x % 256 < 128 → c = l2iF x % 256) ∧ (128 ≤ l2iF x % 256 → c = l2iF x % 256 - 256)) : c = by8 x := by
  unfold by8
  have t := bmod_c (x := l2iF x)
  omega
/-- the bytes fed so far -/
def FDI (f : Int → Int → Int) (S T : sS) (t : Nat) (c0 w n m : Int) : Prop := (∀ k : Nat, (k : Int) < m → Xi T t (c0.toNat + k) = by8 (f w (8 * (n - 1 - k)))) ∧ ∀ j : Nat, (j : Int) < c0 → Xi T t j = Xi S t j
theorem fdi_0 {f : Int → Int → Int} {S : sS} {t : Nat} {c0 w n m : Int} (h : m ≤ 0) : FDI f S S t c0 w n m := ⟨fun k hk => by omega, fun j _ => rfl⟩
theorem fdi_s {f : Int → Int → Int} {S T U V : sS} {t e i : Nat} {c0 w n m x c y v m1 : Int} (h : FDI f S T t c0 w n m) (m0 : 0 ≤ m) (h0 : 0 ≤ c0) (hx : x = c0 + m) (e1 : U = uI T t x.toNat (Int32.ofInt c)) (hc : -128 ≤ c ∧ c ≤ 127) (e2 : V = uI U e i (Int32.ofInt y)) (ne : e ≠ t) (b : c = by8 (f w (8 * v))) (hv : v = n - 1 - m) (e3 : m1 = m + 1) : FDI f S V t c0 w n m1 := by
  refine ⟨fun k hk => ?_, fun j hj => ?_⟩
  · rw [e2, Xi_ne (by omega)]
    by_cases q : (k : Int) = m
    · rw [e1, show c0.toNat + k = x.toNat by omega, Xi_same (by unfold rg; omega), b, hv, q]
    · rw [e1, Xi_ne (by omega)]
      exact h.1 k (by omega)
  · rw [e2, Xi_ne (by omega), e1, Xi_ne (by omega)]
    exact h.2 j hj
def FDZ (f : Int → Int → Int) (S S1 : sS) (t : Nat) (c0 w n : Int) : Prop := (1 ≤ n → n ≤ 8 → c0 + n ≤ 5000 → ∀ k : Nat, (k : Int) < n → Xi S1 t (c0.toNat + k) = by8 (f w (8 * (n - 1 - k)))) ∧ ∀ j : Nat, (j : Int) < c0 → Xi S1 t j = Xi S t j
theorem fdz_n {f : Int → Int → Int} {S : sS} {t : Nat} {c0 w n : Int} (h : n < 1 ∨ 8 < n ∨ 5000 < c0 + n) : FDZ f S S t c0 w n := ⟨fun _ _ _ => by omega, fun _ _ => rfl⟩
theorem fdz_i {f : Int → Int → Int} {S T : sS} {t : Nat} {c0 w n m : Int} (h : FDI f S T t c0 w n m) (e : m = n) : FDZ f S T t c0 w n := ⟨fun _ _ _ k hk => h.1 k (by omega), h.2⟩
def md_rs_feed__t : List rec := [(0, 1, 10, 11), (902, 904, 0, 100000)]
abbrev Q_rs_feed__t (S : sS) (ts : Nat) (w : Int) (n : Int) : pst := fun r S1 => HI S1 ∧ FR md_rs_feed__t S S1 ∧ (∃ z : Int, r = some (iv z) ∧ (-1 ≤ z ∧ z ≤ 5000) ∧ (1 ≤ n → n ≤ 8 → Xi S 0 10 + n ≤ 5000 → z = Xi S 0 10 + n ∧ Xi S1 0 10 = Xi S 0 10 + n) ∧ (n < 1 ∨ 8 < n ∨ 5000 < Xi S 0 10 + n → z = -1 ∧ Xi S1 0 10 = Xi S 0 10) ∧ (∀ t j : Nat, 0 < t → t ≠ ts → Xi S1 t j = Xi S t j) ∧ (FDZ lushrF S S1 ts (Xi S 0 10) w n))
set_option maxRecDepth 100000 in
theorem t_rs_feed__t {S : sS} (hH : HI S) (ts : Nat) (w : Int) (n : Int) (hn : -2147483648 ≤ n ∧ n ≤ 2147483647) (h8 : S.2.2 0 8 = some ts) (htp : tp ts) (d : Nat) : Mt lay0 (d + 1) m_rs_feed [.ref 0, jw w, iv n] S (Q_rs_feed__t S ts w n) := by
  refine Mt_R rfl rfl ?_
  have hF : FR md_rs_feed__t S S := FR.rf
  have w1 : 0 ≤ Xi S 0 10 ∧ Xi S 0 10 ≤ 5000 := hH.c _ _
  have C30 : ∀ (n30 : Nat) (T1 : sS) (_ : HI T1) (_ : FR md_rs_feed__t S T1) (v4 : Int), (-1 ≤ v4 ∧ v4 ≤ 7) → (Xi T1 0 10 + v4 + 1 = Xi S 0 10 + n) → (1 ≤ n ∧ n ≤ 8 ∧ Xi S 0 10 + n ≤ 5000) → (T1.2.2 0 8 = some ts) → (∀ t j : Nat, 0 < t → t ≠ ts → Xi T1 t j = Xi S t j) → (v4 ≤ n - 1) → (FDI lushrF S T1 ts (Xi S 0 10) w n (n - 1 - v4)) → n30 = (v4 + 1).toNat → Rl lay0 (d + 0) m_rs_feed 30 [(0, .ref 0), (1, jw w), (4, iv v4)] [] T1 (Q_rs_feed__t S ts w n) := by
    intro n30
    induction n30 using Nat.strongRecOn with
    | ind n30 ih30 =>
      intro T1 hHT1 hFT1 v4 w2 w3 w4 h8_30 O30 w5 F30 hm30
      have w6 : 0 ≤ Xi T1 0 10 ∧ Xi T1 0 10 ≤ 5000 := hHT1.c _ _
      refine l_iload rfl rfl ?_
      refine l_if_lt rfl rfl (by unfold rg; omega) (fun w7 => ?_) (fun w8 => ?_)
      · refine l_aload_n rfl rfl ?_
        refine l_gfi rfl rfl rfl rfl rfl ?_
        refine l_ireturn rfl rfl ?_
        exact ⟨hHT1, hFT1, _, rfl, ⟨by omega, by omega⟩, (by first | assumption | omega), (by first | assumption | omega), (by first | exact O30 | exact fun _ _ _ _ => rfl), (by first | exact fdz_i F30 (by omega) | exact fdz_n (by omega))⟩
      · refine l_aload_n rfl rfl ?_
        refine l_gfr rfl rfl rfl rfl rfl h8_30 ?_
        refine l_aload_n rfl rfl ?_
        refine l_gfi rfl rfl rfl rfl rfl ?_
        refine l_lload_n rfl rfl ?_
        refine l_bipush rfl rfl ?_
        refine l_iload rfl rfl ?_
        refine l_imul rfl ?_
        refine l_lushrF rfl ?_
        have w11 : rgL (lushrF w (8 * v4)) := lushrF_rg
        refine l_l2iF rfl ?_
        refine l_i2b rfl (fun c13 w13 => ?_)
        refine l_bastoreB1 (n := 5000) rfl (lay_tp (by assumption)) (by omega) (by omega) (by unfold rg; omega) ⟨by omega, by omega⟩ ?_
        obtain ⟨U2, eU2⟩ : ∃ T : sS, T = uI T1 ts (((Xi T1 0 10)).toNat) (Int32.ofInt c13) := ⟨_, rfl⟩
        rw [← eU2]
        have hHU2 : HI U2 := by rw [eU2]; exact HI_w hHT1 (by rw [lh_tp (by assumption)]; omega) (by rw [lh_tp (by assumption)]; omega)
        have hFU2 : FR md_rs_feed__t S U2 := by rw [eU2]; exact FR.wI hFT1 (mdf_i (r := (902, 904, 0, 100000)) (List.mem_of_getElem? (i := 1) rfl) (inR_i (by unfold tp at *; omega) (by unfold tp at *; omega) (by omega) (by omega)))
        have w14 : Xi U2 ts (((Xi T1 0 10)).toNat) = c13 := by rw [eU2]; exact Xi_same (by unfold rg; omega)
        refine l_aload_n rfl rfl ?_
        refine l_dup rfl rfl ?_
        refine l_gfi rfl rfl rfl rfl rfl ?_
        have w15 : (Xi U2 0 10) = (Xi T1 0 10) := (show Xi U2 0 10 = Xi T1 0 10 from by rw [eU2]; exact Xi_ne (by unfold tp at *; omega))
        rw [w15]
        refine l_iconst rfl ?_
        refine l_iadd rfl ?_
        refine l_pfi rfl rfl rfl rfl ?_
        obtain ⟨U3, eU3⟩ : ∃ T : sS, T = uI U2 0 10 (Int32.ofInt ((Xi T1 0 10) + 1)) := ⟨_, rfl⟩
        rw [← eU3]
        have hHU3 : HI U3 := by rw [eU3]; exact HI_w hHU2 (show 0 ≤ ((Xi T1 0 10) + 1) by omega) (show ((Xi T1 0 10) + 1) ≤ 5000 by omega)
        have hFU3 : FR md_rs_feed__t S U3 := by rw [eU3]; exact FR.wI hFU2 (mdf_i (r := (0, 1, 10, 11)) (List.mem_of_getElem? (i := 0) rfl) (inR_i (by omega) (by omega) (by omega) (by omega)))
        have w16 : Xi U3 0 10 = ((Xi T1 0 10) + 1) := by rw [eU3]; exact Xi_same (by unfold rg; omega)
        have O60 : ∀ t j : Nat, 0 < t → t ≠ ts → Xi U3 t j = Xi S t j := fun t j a b => by rw [eU3, Xi_ne (by omega), eU2, Xi_ne (by omega)]; exact O30 t j a b
        have F60 : FDI lushrF S U3 ts (Xi S 0 10) w n (n - 1 - (v4 + (-1))) := fdi_s F30 (by omega) (by omega) (by omega) eU2 (by omega) eU3 (by unfold tp at *; omega) (by8_i (by assumption)) (by omega) (by omega)
        refine l_iinc rfl rfl rfl rfl ?_
        refine l_goto rfl rfl ?_
        have w17 : 0 ≤ Xi U3 0 10 ∧ Xi U3 0 10 ≤ 5000 := hHU3.c _ _
        exact Rl_weak (ih30 _ (by omega) U3 hHU3 hFU3 ((v4 + (-1))) (by omega) (by omega) (by omega) (((show U3.2.2 0 8 = U2.2.2 0 8 from by rw [eU3]; rfl).trans ((show U2.2.2 0 8 = T1.2.2 0 8 from by rw [eU2]; rfl).trans h8_30))) (by first | exact O60 | exact fun _ _ _ _ => rfl) (by omega) (by first | exact F60 | exact fdi_0 (by omega)) rfl) (And.intro rfl (And.intro rfl (And.intro rfl (True.intro))))
  refine l_iload_n rfl rfl ?_
  refine l_iconst rfl ?_
  refine l_icmp_lt rfl rfl (by unfold rg; omega) (by unfold rg; omega) (fun w18 => ?_) (fun w19 => ?_)
  · refine l_iconst rfl ?_
    refine l_ireturn rfl rfl ?_
    exact ⟨hH, hF, _, rfl, ⟨by omega, by omega⟩, (by first | assumption | omega), (by first | assumption | omega), (by first | exact O30 | exact fun _ _ _ _ => rfl), (by first | exact fdz_i F30 (by omega) | exact fdz_n (by omega))⟩
  · refine l_iload_n rfl rfl ?_
    refine l_bipush rfl rfl ?_
    refine l_icmp_gt rfl rfl (by unfold rg; omega) (by unfold rg; omega) (fun w21 => ?_) (fun w22 => ?_)
    · refine l_iconst rfl ?_
      refine l_ireturn rfl rfl ?_
      exact ⟨hH, hF, _, rfl, ⟨by omega, by omega⟩, (by first | assumption | omega), (by first | assumption | omega), (by first | exact O30 | exact fun _ _ _ _ => rfl), (by first | exact fdz_i F30 (by omega) | exact fdz_n (by omega))⟩
    · refine l_aload_n rfl rfl ?_
      refine l_gfi rfl rfl rfl rfl rfl ?_
      refine l_iload_n rfl rfl ?_
      refine l_iadd rfl ?_
      refine l_sipush rfl rfl ?_
      refine l_icmp_le rfl rfl (by unfold rg; omega) (by unfold rg; omega) (fun w24 => ?_) (fun w25 => ?_)
      · refine l_iload_n rfl rfl ?_
        refine l_iconst rfl ?_
        refine l_isub rfl ?_
        refine l_istore rfl rfl rfl ?_
        exact Rl_weak (C30 _ S hH hF ((n - 1)) (by omega) (by omega) (by omega) (h8) (by first | exact O60 | exact fun _ _ _ _ => rfl) (by omega) (by first | exact F60 | exact fdi_0 (by omega)) rfl) (And.intro rfl (And.intro rfl (And.intro rfl (True.intro))))
      · refine l_iconst rfl ?_
        refine l_ireturn rfl rfl ?_
        exact ⟨hH, hF, _, rfl, ⟨by omega, by omega⟩, (by first | assumption | omega), (by first | assumption | omega), (by first | exact O30 | exact fun _ _ _ _ => rfl), (by first | exact fdz_i F30 (by omega) | exact fdz_n (by omega))⟩
def md_mo_feed__t : List rec := [(904, 905, 1, 2), (905, 906, 0, 100000)]
abbrev Q_mo_feed__t (S : sS) (w : Int) (n : Int) : pst := fun r S1 => HI S1 ∧ FR md_mo_feed__t S S1 ∧ (∃ z : Int, r = some (iv z) ∧ (-1 ≤ z ∧ z ≤ 5000) ∧ (1 ≤ n → n ≤ 8 → Xi S 904 1 + n ≤ 5000 → z = Xi S 904 1 + n ∧ Xi S1 904 1 = Xi S 904 1 + n) ∧ (n < 1 ∨ 8 < n ∨ 5000 < Xi S 904 1 + n → z = -1 ∧ Xi S1 904 1 = Xi S 904 1) ∧ (FDZ lshrF S S1 905 (Xi S 904 1) w n))
set_option maxRecDepth 100000 in
theorem t_mo_feed__t {S : sS} (hH : HI S) (w : Int) (n : Int) (hn : -2147483648 ≤ n ∧ n ≤ 2147483647) (d : Nat) : Mt lay0 (d + 1) m_mo_feed [.ref 904, jw w, iv n] S (Q_mo_feed__t S w n) := by
  refine Mt_R rfl rfl ?_
  have hF : FR md_mo_feed__t S S := FR.rf
  have w1 : 0 ≤ Xi S 904 1 ∧ Xi S 904 1 ≤ 5000 := hH.c _ _
  have C30 : ∀ (n30 : Nat) (T1 : sS) (_ : HI T1) (_ : FR md_mo_feed__t S T1) (v4 : Int), (-1 ≤ v4 ∧ v4 ≤ 7) → (Xi T1 904 1 = Xi S 904 1 + (n - 1 - v4)) → (1 ≤ n ∧ n ≤ 8 ∧ Xi S 904 1 + n ≤ 5000) → (v4 ≤ n - 1) → (FDI lshrF S T1 905 (Xi S 904 1) w n (n - 1 - v4)) → n30 = (v4 + 1).toNat → Rl lay0 (d + 0) m_mo_feed 30 [(0, .ref 904), (1, jw w), (4, iv v4)] [] T1 (Q_mo_feed__t S w n) := by
    intro n30
    induction n30 using Nat.strongRecOn with
    | ind n30 ih30 =>
      intro T1 hHT1 hFT1 v4 w2 w3 w4 w5 F30 hm30
      have w6 : 0 ≤ Xi T1 904 1 ∧ Xi T1 904 1 ≤ 5000 := hHT1.c _ _
      refine l_iload rfl rfl ?_
      refine l_if_lt rfl rfl (by unfold rg; omega) (fun w7 => ?_) (fun w8 => ?_)
      · refine l_aload_n rfl rfl ?_
        refine l_gfi rfl rfl rfl rfl rfl ?_
        refine l_ireturn rfl rfl ?_
        exact ⟨hHT1, hFT1, _, rfl, ⟨by omega, by omega⟩, (by first | assumption | omega), (by first | assumption | omega), (by first | exact fdz_i F30 (by omega) | exact fdz_n (by omega))⟩
      · refine l_aload_n rfl rfl ?_
        refine l_gfr rfl rfl rfl rfl rfl (hHT1.r 904 0 905 rfl) ?_
        refine l_aload_n rfl rfl ?_
        refine l_gfi rfl rfl rfl rfl rfl ?_
        refine l_lload_n rfl rfl ?_
        refine l_bipush rfl rfl ?_
        refine l_iload rfl rfl ?_
        refine l_imul rfl ?_
        refine l_lshrF rfl ?_
        have w10 : rgL (lshrF w (8 * v4)) := lshrF_rg
        refine l_l2iF rfl ?_
        refine l_i2b rfl (fun c12 w12 => ?_)
        refine l_bastoreB1 (n := 5000) rfl rfl (by omega) (by omega) (by unfold rg; omega) ⟨by omega, by omega⟩ ?_
        obtain ⟨U2, eU2⟩ : ∃ T : sS, T = uI T1 905 (((Xi T1 904 1)).toNat) (Int32.ofInt c12) := ⟨_, rfl⟩
        rw [← eU2]
        have hHU2 : HI U2 := by rw [eU2]; exact HI_w hHT1 (show -128 ≤ c12 by omega) (show c12 ≤ 127 by omega)
        have hFU2 : FR md_mo_feed__t S U2 := by rw [eU2]; exact FR.wI hFT1 (mdf_i (r := (905, 906, 0, 100000)) (List.mem_of_getElem? (i := 1) rfl) (inR_i (by omega) (by omega) (by omega) (by omega)))
        have w13 : Xi U2 905 (((Xi T1 904 1)).toNat) = c12 := by rw [eU2]; exact Xi_same (by unfold rg; omega)
        refine l_aload_n rfl rfl ?_
        refine l_dup rfl rfl ?_
        refine l_gfi rfl rfl rfl rfl rfl ?_
        have w14 : (Xi U2 904 1) = (Xi T1 904 1) := (show Xi U2 904 1 = Xi T1 904 1 from by rw [eU2]; exact Xi_ne (by omega))
        rw [w14]
        refine l_iconst rfl ?_
        refine l_iadd rfl ?_
        refine l_pfi rfl rfl rfl rfl ?_
        obtain ⟨U3, eU3⟩ : ∃ T : sS, T = uI U2 904 1 (Int32.ofInt ((Xi T1 904 1) + 1)) := ⟨_, rfl⟩
        rw [← eU3]
        have hHU3 : HI U3 := by rw [eU3]; exact HI_w hHU2 (show 0 ≤ ((Xi T1 904 1) + 1) by omega) (show ((Xi T1 904 1) + 1) ≤ 5000 by omega)
        have hFU3 : FR md_mo_feed__t S U3 := by rw [eU3]; exact FR.wI hFU2 (mdf_i (r := (904, 905, 1, 2)) (List.mem_of_getElem? (i := 0) rfl) (inR_i (by omega) (by omega) (by omega) (by omega)))
        have w15 : Xi U3 904 1 = ((Xi T1 904 1) + 1) := by rw [eU3]; exact Xi_same (by unfold rg; omega)
        have F60 : FDI lshrF S U3 905 (Xi S 904 1) w n (n - 1 - (v4 + (-1))) := fdi_s F30 (by omega) (by omega) (by omega) eU2 (by omega) eU3 (by omega) (by8_i (by assumption)) (by omega) (by omega)
        refine l_iinc rfl rfl rfl rfl ?_
        refine l_goto rfl rfl ?_
        have w16 : 0 ≤ Xi U3 904 1 ∧ Xi U3 904 1 ≤ 5000 := hHU3.c _ _
        exact Rl_weak (ih30 _ (by omega) U3 hHU3 hFU3 ((v4 + (-1))) (by omega) (by omega) (by omega) (by omega) (by first | exact F60 | exact fdi_0 (by omega)) rfl) (And.intro rfl (And.intro rfl (And.intro rfl (True.intro))))
  refine l_iload_n rfl rfl ?_
  refine l_iconst rfl ?_
  refine l_icmp_lt rfl rfl (by unfold rg; omega) (by unfold rg; omega) (fun w17 => ?_) (fun w18 => ?_)
  · refine l_iconst rfl ?_
    refine l_ireturn rfl rfl ?_
    exact ⟨hH, hF, _, rfl, ⟨by omega, by omega⟩, (by first | assumption | omega), (by first | assumption | omega), (by first | exact fdz_i F30 (by omega) | exact fdz_n (by omega))⟩
  · refine l_iload_n rfl rfl ?_
    refine l_bipush rfl rfl ?_
    refine l_icmp_gt rfl rfl (by unfold rg; omega) (by unfold rg; omega) (fun w20 => ?_) (fun w21 => ?_)
    · refine l_iconst rfl ?_
      refine l_ireturn rfl rfl ?_
      exact ⟨hH, hF, _, rfl, ⟨by omega, by omega⟩, (by first | assumption | omega), (by first | assumption | omega), (by first | exact fdz_i F30 (by omega) | exact fdz_n (by omega))⟩
    · refine l_aload_n rfl rfl ?_
      refine l_gfi rfl rfl rfl rfl rfl ?_
      refine l_iload_n rfl rfl ?_
      refine l_iadd rfl ?_
      refine l_sipush rfl rfl ?_
      refine l_icmp_le rfl rfl (by unfold rg; omega) (by unfold rg; omega) (fun w23 => ?_) (fun w24 => ?_)
      · refine l_iload_n rfl rfl ?_
        refine l_iconst rfl ?_
        refine l_isub rfl ?_
        refine l_istore rfl rfl rfl ?_
        exact Rl_weak (C30 _ S hH hF ((n - 1)) (by omega) (by omega) (by omega) (by omega) (by first | exact F60 | exact fdi_0 (by omega)) rfl) (And.intro rfl (And.intro rfl (And.intro rfl (True.intro))))
      · refine l_iconst rfl ?_
        refine l_ireturn rfl rfl ?_
        exact ⟨hH, hF, _, rfl, ⟨by omega, by omega⟩, (by first | assumption | omega), (by first | assumption | omega), (by first | exact fdz_i F30 (by omega) | exact fdz_n (by omega))⟩
abbrev Q_rs_fault__t (S : sS) : pst := fun r S1 => S = S1 ∧ (∃ z : Int, r = some (iv z) ∧ (0 ≤ z ∧ z ≤ 9) ∧ (z = Xi S 0 11))
set_option maxRecDepth 100000 in
theorem t_rs_fault__t {S : sS} (hH : HI S) (d : Nat) : Mt lay0 (d + 1) m_rs_fault [.ref 0] S (Q_rs_fault__t S) := by
  refine Mt_R rfl rfl ?_
  have w1 : 0 ≤ Xi S 0 11 ∧ Xi S 0 11 ≤ 9 := hH.c _ _
  refine l_aload_n rfl rfl ?_
  refine l_gfi rfl rfl rfl rfl rfl ?_
  refine l_ireturn rfl rfl ?_
  exact ⟨rfl, _, rfl, ⟨by omega, by omega⟩, (rfl)⟩
abbrev Q_mo_fault__t (S : sS) : pst := fun r S1 => S = S1 ∧ (∃ z : Int, r = some (iv z) ∧ (0 ≤ z ∧ z ≤ 9) ∧ (z = Xi S 904 62))
set_option maxRecDepth 100000 in
theorem t_mo_fault__t {S : sS} (hH : HI S) (d : Nat) : Mt lay0 (d + 1) m_mo_fault [.ref 904] S (Q_mo_fault__t S) := by
  refine Mt_R rfl rfl ?_
  have w1 : 0 ≤ Xi S 904 62 ∧ Xi S 904 62 ≤ 9 := hH.c _ _
  refine l_aload_n rfl rfl ?_
  refine l_gfi rfl rfl rfl rfl rfl ?_
  refine l_ireturn rfl rfl ?_
  exact ⟨rfl, _, rfl, ⟨by omega, by omega⟩, (rfl)⟩
/-! feed leaves both the same bytes -/
theorem by8_j (Z : Int64) : by8 Z.toInt = ((Z.toBitVec.setWidth 8).toInt) := by
  unfold by8 l2iF
  rw [ofJ_toJ, Int64.toInt_toInt32, Int.bmod_bmod_of_dvd (by decide), BitVec.toInt_setWidth]
  show (Z.toBitVec.toInt).bmod 256 = _
  rw [BitVec.toInt_eq_toNat_bmod, Int.bmod_bmod_of_dvd (by decide)]
theorem sh8 (x : BitVec 64) (s : Nat) (h : s ≤ 56) : (x >>> s).setWidth 8 = (x.sshiftRight s).setWidth 8 := by
  apply BitVec.eq_of_getLsbD_eq
  intro i hi
  rw [BitVec.getLsbD_setWidth, BitVec.getLsbD_setWidth, BitVec.getLsbD_ushiftRight, BitVec.getLsbD_sshiftRight]
  rw [if_pos (by omega), show decide (64 ≤ i) = false from decide_eq_false (by omega)]
  rfl
theorem sh_same {w i : Int} (h0 : 0 ≤ i) (h7 : i ≤ 7) : by8 (lushrF w (8 * i)) = by8 (lshrF w (8 * i)) := by
  have key : ∀ s : Nat, s ≤ 56 → ∀ A B : Int64, A.toBitVec = (BitVec.ofInt 64 w) >>> s → B.toBitVec = (BitVec.ofInt 64 w).sshiftRight s → by8 A.toInt = by8 B.toInt := fun s hs A B ea eb => by
    rw [by8_j, by8_j, ea, eb, sh8 _ s hs]
  unfold lushrF lshrF
  have c : i = 0 ∨ i = 1 ∨ i = 2 ∨ i = 3 ∨ i = 4 ∨ i = 5 ∨ i = 6 ∨ i = 7 := by omega
  rcases c with e | e | e | e | e | e | e | e <;> subst e
  · exact key 0 (by decide) _ _ rfl rfl
  · exact key 8 (by decide) _ _ rfl rfl
  · exact key 16 (by decide) _ _ rfl rfl
  · exact key 24 (by decide) _ _ rfl rfl
  · exact key 32 (by decide) _ _ rfl rfl
  · exact key 40 (by decide) _ _ rfl rfl
  · exact key 48 (by decide) _ _ rfl rfl
  · exact key 56 (by decide) _ _ rfl rfl
theorem feed_same {S S1 R R1 : sS} {ts : Nat} {c0 w n : Int} (h0 : 0 ≤ c0) (b : ∀ j : Nat, (j : Int) < c0 → Xi S ts j = Xi R 905 j) (f : FDZ lushrF S S1 ts c0 w n) (g : FDZ lshrF R R1 905 c0 w n) : (∀ j : Nat, (j : Int) < c0 → Xi S1 ts j = Xi R1 905 j) ∧ (1 ≤ n → n ≤ 8 → c0 + n ≤ 5000 → ∀ j : Nat, (j : Int) < c0 + n → Xi S1 ts j = Xi R1 905 j) := by
  have low : ∀ j : Nat, (j : Int) < c0 → Xi S1 ts j = Xi R1 905 j := fun j hj => by rw [f.2 j hj, g.2 j hj]; exact b j hj
  refine ⟨low, fun h1 h2 h3 j hj => ?_⟩
  by_cases q : (j : Int) < c0
  · exact low j q
  · have u := f.1 h1 h2 h3 (j - c0.toNat) (by omega)
    have v := g.1 h1 h2 h3 (j - c0.toNat) (by omega)
    rw [show c0.toNat + (j - c0.toNat) = j by omega] at u v
    rw [u, v]
    exact sh_same (by omega) (by omega)

/-! both read alike; what both share between calls -/
theorem read_eq {S Q S1 Q1 : sS} {ts : Nat} {z w : Int} (ht : tp ts) (e1 : Xi S 0 10 = Xi Q 904 1) (ky : KEYR (Xj S 880) (Xj Q 911)) (yt : ∀ j : Nat, (j : Int) < Xi S 0 10 → Xi S ts j = Xi Q 905 j) (FS : FR md_rs_read__t S S1) (r : RFN S ts S1 z) (m : MRN Q Q1 w) : z = w ∧ Xi S1 0 11 = Xi Q1 904 62 := by
  obtain ⟨h, c⟩ := read_same ht e1 ky yt FS r m
  refine ⟨h, ?_⟩
  rcases c with ⟨_, _, c, _⟩ | ⟨U, R, Y, _, ⟨u8, r62⟩, _, _, FO, FP, ⟨R2, _, q62, _, pl⟩, _⟩
  · exact c
  · have a : Xi S1 0 11 = 0 := by
      rw [FO.x 0 11 rfl, FP.x 0 11 rfl, u8]
      exact Xi_same (by unfold rg; omega)
    have b : Xi Q1 904 62 = 0 := by
      rcases pl with ⟨e, _⟩ | ⟨_, o, _, _, _, e⟩
      · rw [e]; exact q62
      · rw [e, Xi_ne (by omega), Xi_ne (by omega)]; exact q62
    rw [a, b]
/-- key words, the fault told last, the bytes fed -/
def EQB (S : sS) : Prop := KEYR (Xj S 880) (Xj S 911) ∧ Xi S 0 11 = Xi S 904 62 ∧ ∀ ts : Nat, S.2.2 0 8 = some ts → ∀ j : Nat, (j : Int) < Xi S 904 1 → Xi S ts j = Xi S 905 j
theorem eqb_fr {l : List rec} {S T : sS} (h : FR l S T) (e : kepC l [(880, 881), (902, 904), (905, 906), (911, 912)] [(0, 8), (0, 11), (904, 62)] = true) (tpS : ∀ ts : Nat, S.2.2 0 8 = some ts → tp ts) (q : Xi T 904 1 = Xi S 904 1 ∨ Xi T 904 1 ≤ 0) (E : EQB S) : EQB T := by
  have k := h.kep e
  obtain ⟨E1, E2, E3⟩ := E
  have j1 : Xj T 880 = Xj S 880 := funext fun j => k.j 880 rfl j
  have j2 : Xj T 911 = Xj S 911 := funext fun j => k.j 911 rfl j
  refine ⟨by rw [j1, j2]; exact E1, by rw [k.f 0 11 (by decide), k.f 904 62 (by decide)]; exact E2, fun ts h8 j hj => ?_⟩
  have h8' : S.2.2 0 8 = some ts := (k.2 (0, 8) (by decide)).2.2.symm.trans h8
  have t := E3 ts h8' j (by omega)
  rw [k.x 905 rfl j]
  rcases tpS ts h8' with u | u <;> subst u
  · rw [k.x 902 rfl j]; exact t
  · rw [k.x 903 rfl j]; exact t
theorem eqb_feed {S T V : sS} {ts : Nat} {w n : Int} (h8 : S.2.2 0 8 = some ts) (ht : tp ts) (e : Xi S 0 10 = Xi S 904 1) (h0 : 0 ≤ Xi S 0 10) (E : EQB S) (fS : FR md_rs_feed__t S T) (z : FDZ lushrF S T ts (Xi S 0 10) w n) (fT : FR md_mo_feed__t T V) (y : FDZ lshrF T V 905 (Xi T 904 1) w n) (v : Xi V 904 1 = Xi T 904 1 ∨ (1 ≤ n ∧ n ≤ 8 ∧ Xi T 904 1 + n ≤ 5000 ∧ Xi V 904 1 = Xi T 904 1 + n)) : EQB V := by
  obtain ⟨E1, E2, E3⟩ := E
  have kS : KEP [(880, 881), (905, 906), (911, 912)] [(0, 8), (0, 11), (904, 1), (904, 62)] S T := fS.kep rfl
  have kT : KEP [(880, 881), (902, 904), (911, 912)] [(0, 8), (0, 11), (904, 62)] T V := fT.kep rfl
  have j1 : Xj V 880 = Xj S 880 := funext fun j => (kT.j 880 rfl j).trans (kS.j 880 rfl j)
  have j2 : Xj V 911 = Xj S 911 := funext fun j => (kT.j 911 rfl j).trans (kS.j 911 rfl j)
  have f1 : Xi V 0 11 = Xi S 0 11 := (kT.f 0 11 (by decide)).trans (kS.f 0 11 (by decide))
  have f2 : Xi V 904 62 = Xi S 904 62 := (kT.f 904 62 (by decide)).trans (kS.f 904 62 (by decide))
  have t1 : Xi T 904 1 = Xi S 904 1 := kS.f 904 1 (by decide)
  rw [t1, ← e] at y
  have b : ∀ j : Nat, (j : Int) < Xi S 0 10 → Xi S ts j = Xi T 905 j := fun j hj => by rw [kS.x 905 rfl j]; exact E3 ts h8 j (by omega)
  obtain ⟨lo, hi⟩ := feed_same h0 b z y
  have vt : ∀ j : Nat, Xi V ts j = Xi T ts j := fun j => by
    rcases ht with u | u <;> rw [u]
    · exact kT.x 902 rfl j
    · exact kT.x 903 rfl j
  refine ⟨by rw [j1, j2]; exact E1, by rw [f1, f2]; exact E2, fun us h8' j hj => ?_⟩
  have eu : us = ts := by
    have u := (kT.2 (0, 8) (by decide)).2.2
    have v := (kS.2 (0, 8) (by decide)).2.2
    have x : V.2.2 0 8 = some ts := (u.trans v).trans h8
    exact Option.some.inj (h8'.symm.trans x)
  rw [eu, vt j]
  rcases v with v | ⟨n1, n2, n3, v⟩
  · exact lo j (by omega)
  · exact hi n1 n2 (by omega) j (by omega)
theorem eqb_read {S T V : sS} {ts : Nat} {z w : Int} (h8 : S.2.2 0 8 = some ts) (ht : tp ts) (e : Xi S 0 10 = Xi S 904 1) (E : EQB S) (fS : FR md_rs_read__t S T) (r : RFN S ts T z) (fT : FR md_mo_read__t T V) (m : MRN T V w) (v : Xi V 904 1 = 0) : z = w ∧ EQB V := by
  obtain ⟨E1, E2, E3⟩ := E
  have kS : KEP [(880, 881), (905, 906), (911, 912)] [(904, 1)] S T := fS.kep rfl
  have kT : KEP [(880, 881), (911, 912)] [(0, 11)] T V := fT.kep rfl
  have s2 : Xj T 911 = Xj S 911 := funext fun j => kS.j 911 rfl j
  have j1 : Xj V 880 = Xj S 880 := funext fun j => (kT.j 880 rfl j).trans (kS.j 880 rfl j)
  have j2 : Xj V 911 = Xj S 911 := funext fun j => (kT.j 911 rfl j).trans (kS.j 911 rfl j)
  have t1 : Xi T 904 1 = Xi S 904 1 := kS.f 904 1 (by decide)
  obtain ⟨h, f⟩ := read_eq ht (by rw [t1]; exact e) (by rw [s2]; exact E1) (fun j hj => by rw [kS.x 905 rfl j]; exact E3 ts h8 j (by omega)) fS r m
  exact ⟨h, by rw [j1, j2]; exact E1, by rw [kT.f 0 11 (by decide)]; exact f, fun us _ j hj => by omega⟩
/-- both rows of one call -/
def RXC (S : sS) (ts : Nat) (S1 : sS) (r : Option Value) : Prop := FR md_rs_read__t S S1 ∧ ∀ z : Int, rg z → r = some (iv z) → RFN S ts S1 z
def RXM (S S1 : sS) (r : Option Value) : Prop := FR md_mo_read__t S S1 ∧ ∀ z : Int, rg z → r = some (iv z) → MRN S S1 z
theorem t_fd_c {S : sS} (hH : HI S) (ts : Nat) (w n : Int) (hn : -2147483648 ≤ n ∧ n ≤ 2147483647) (h8 : S.2.2 0 8 = some ts) (htp : tp ts) (d : Nat) : Mt lay0 (d + 1) m_rs_feed [.ref 0, jw w, iv n] S (fun r S1 => Q_rs_feed__2 S ts w n r S1 ∧ (FR md_rs_feed__t S S1 ∧ FDZ lushrF S S1 ts (Xi S 0 10) w n)) := Mt_m (Mt_i (P := True) (t_rs_feed__2 hH ts w n hn h8 htp d) (fun _ => Mt_mp (t_rs_feed__t hH ts w n hn h8 htp d))) (fun r S1 h => ⟨h.1, by
  obtain ⟨_, f, z, e, rz, _, _, _, q⟩ := h.2 trivial
  exact ⟨f, q⟩⟩)
theorem t_fd_m {S : sS} (hH : HI S) (w n : Int) (hn : -2147483648 ≤ n ∧ n ≤ 2147483647) (d : Nat) : Mt lay0 (d + 1) m_mo_feed [.ref 904, jw w, iv n] S (fun r S1 => Q_mo_feed S w n r S1 ∧ (FR md_mo_feed__t S S1 ∧ FDZ lshrF S S1 905 (Xi S 904 1) w n)) := Mt_m (Mt_i (P := True) (t_mo_feed hH w n hn d) (fun _ => Mt_mp (t_mo_feed__t hH w n hn d))) (fun r S1 h => ⟨h.1, by
  obtain ⟨_, f, z, e, rz, _, _, q⟩ := h.2 trivial
  exact ⟨f, q⟩⟩)

/-! what both share: a fresh state has it -/
theorem inv_tp {S : sS} (h : INV S) : ∀ ts : Nat, S.2.2 0 8 = some ts → tp ts := by
  obtain ⟨_, ⟨us, uq, hc⟩, _⟩ := h
  intro ts e
  have u : us = ts := Option.some.inj (hc.1.1.symm.trans e)
  rw [← u]; exact hc.1.2.2.1
noncomputable def jTo (k j : Nat) : Option Int := match lookT sT2 k j with
  | some (.inr (.inl (some z))) => some z
  | _ => none
theorem gs_je {S : sS} (h : gS sT2 S) {k j : Nat} {b : Int} (e : jTo k j = some b) : Xj S k j = b := by
  have g := h.2 k j
  unfold jTo at e
  split at e
  · next z hz => rw [hz] at g; unfold Xj; rw [g.2.1]; exact Option.some.inj e
  · exact nomatch e
noncomputable def kyC (i : Nat) : Bool := match jTo 880 i, jTo 911 i with
  | some a, some b => decide (b = cv a) && (decide (0 ≤ a) && decide (a < 27 ^ 13))
  | _, _ => false
theorem kyC_ok : ∀ i : Nat, i < 55 → kyC i = true := by decide +kernel
theorem fr_EQB {S : sS} (h : gS sT2 S) : EQB S := by
  refine ⟨fun i hi => ?_, ?_, fun ts _ j hj => ?_⟩
  · have c := kyC_ok i hi
    unfold kyC at c
    split at c
    · next a b ea eb =>
      rw [Bool.and_eq_true, Bool.and_eq_true, decide_eq_true_eq, decide_eq_true_eq, decide_eq_true_eq] at c
      rw [gs_je h ea, gs_je h eb]
      exact ⟨c.1, c.2⟩
    · exact nomatch c
  · rw [gs_v h, gs_v h]
    decide +kernel
  · rw [gs_v h, show vT 904 1 = 0 from by decide +kernel] at hj
    omega
end
