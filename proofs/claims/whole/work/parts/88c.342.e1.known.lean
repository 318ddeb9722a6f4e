section
section
/-! the machine of known cells: a cell that isn't listed is unknown. What it answers, the small machine answers from every state that has the known cells -/
abbrev aRK : Type := Nat × aC
abbrev aTK : Type := Tr aRK 10
def dfK (a : aV) : Bool := match a with
  | .inl (.inl z) => (match z with | .ofNat n => Nat.beq n 0 | .negSucc _ => false)
  | _ => false
noncomputable def insLK (j : Nat) (v : aV) (l : aC) : Option aC := List.rec (some [(j, v)]) (fun q t ih => Prod.casesOn q (fun a x => bif Nat.beq a j then some ((a, v) :: t) else Option.casesOn ih none (fun t1 => some ((a, x) :: t1)))) l
theorem insLK_cons (j : Nat) (v : aV) (a : Nat) (x : aV) (t : aC) : insLK j v ((a, x) :: t) = bif Nat.beq a j then some ((a, v) :: t) else Option.casesOn (insLK j v t) none (fun t1 => some ((a, x) :: t1)) := by sorry
theorem insLK_ok {j : Nat} {v : aV} : ∀ (l l1 : aC), insLK j v l = some l1 → lkV l1 j = some v ∧ ∀ i, i ≠ j → lkV l1 i = lkV l i := by sorry
noncomputable def insZK (j : Nat) (v : aV) (z : Nat) (l : aC) : Option aRK := match insLK j v l with
  | some l1 => some (z, l1)
  | none => none
noncomputable def insK (j : Nat) (v : aV) (q : aRK) : Option aRK := Prod.casesOn q (fun z l => match lkV l j with
  | some _ => insZK j v z l
  | none => bif dfK v then (bif Nat.beq j z then frcN (Nat.succ z) (fun z1 => some (z1, l)) else bif Nat.blt j z then some (z, l) else insZK j v z l) else insZK j v z l)
noncomputable def lkK (q : aRK) (j : Nat) : Option aV := match lkV q.2 j with
  | some v => some v
  | none => bif Nat.blt j q.1 then some (.inl (.inl 0)) else none
theorem dfK_e {v : aV} (h : dfK v = true) : v = .inl (.inl 0) := by sorry
theorem insZK_ok {j z : Nat} {v : aV} {l : aC} {q1 : aRK} (h : insZK j v z l = some q1) : lkK q1 j = some v ∧ ∀ i, i ≠ j → lkK q1 i = lkK (z, l) i := by sorry
theorem insK_ok {j : Nat} {v : aV} {q q1 : aRK} (h : insK j v q = some q1) : lkK q1 j = some v ∧ ∀ i, i ≠ j → lkK q1 i = lkK q i := by sorry
noncomputable def lookK (T : aTK) (k j : Nat) : Option aV := bif Nat.blt k 1024 then lkK (rdT 10 T k) j else none
def gCK (o : Option aV) (S : sS) (k j : Nat) : Prop := match o with
  | none => True
  | some (.inl i) => gI i (S.1 k j)
  | some (.inr (.inl v)) => gJ v (S.2.1 k j)
  | some (.inr (.inr r)) => S.2.2 k j = r
def gSK (T : aTK) (S : sS) : Prop := ∀ k j, gCK (lookK T k j) S k j
noncomputable def putTK (T : aTK) (k j : Nat) (v : aV) : Option aTK := bif Nat.blt k 1024 then upT 10 T k (insK j v) else none
theorem putT_okK {T T1 : aTK} {k j : Nat} {v : aV} {S S1 : sS} (hS : gSK T S) (h : putTK T k j v = some T1) (hoth : ∀ k' j', ¬ (k' = k ∧ j' = j) → S1.1 k' j' = S.1 k' j' ∧ S1.2.1 k' j' = S.2.1 k' j' ∧ S1.2.2 k' j' = S.2.2 k' j') (hv : gCK (some v) S1 k j) : gSK T1 S1 := by sorry
theorem putI_okK {T T1 : aTK} {k j : Nat} {i : aI} {x : Int32} {S : sS} (hS : gSK T S) (h : putTK T k j (.inl i) = some T1) (hx : gI i x) : gSK T1 (uI S k j x) := by sorry
theorem putJ_okK {T T1 : aTK} {k j : Nat} {i : Option Int} {x : Int64} {S : sS} (hS : gSK T S) (h : putTK T k j (.inr (.inl i)) = some T1) (hx : gJ i x) : gSK T1 (uJ S k j x) := by sorry
theorem putR_okK {T T1 : aTK} {k j : Nat} {r : Option Nat} {S : sS} (hS : gSK T S) (h : putTK T k j (.inr (.inr r)) = some T1) : gSK T1 (uR S k j r) := by sorry
noncomputable def rdIK (T : aTK) (k j : Nat) : Option aI := match lookK T k j with
  | some (.inl i) => some i
  | _ => none
noncomputable def rdJK (T : aTK) (k j : Nat) : Option (Option Int) := match lookK T k j with
  | some (.inr (.inl v)) => some v
  | _ => none
noncomputable def rdRK (T : aTK) (k j : Nat) : Option (Option Nat) := match lookK T k j with
  | some (.inr (.inr r)) => some r
  | _ => none
theorem rdI_okK {T : aTK} {S : sS} {k j : Nat} {i : aI} (hS : gSK T S) (h : rdIK T k j = some i) : gI i (S.1 k j) := by sorry
theorem rdJ_okK {T : aTK} {S : sS} {k j : Nat} {i : Option Int} (hS : gSK T S) (h : rdJK T k j = some i) : gJ i (S.2.1 k j) := by sorry
theorem rdR_okK {T : aTK} {S : sS} {k j : Nat} {r : Option Nat} (hS : gSK T S) (h : rdRK T k j = some r) : S.2.2 k j = r := by sorry
abbrev acfgK : Type := Nat × List (Nat × aV) × List aV × aTK
noncomputable def rdFK (ty : FieldType) (T : aTK) (k j : Nat) : Option aV := match ty with
  | .long => Option.casesOn (rdJK T k j) none (fun v => some (.inr (.inl v)))
  | .object _ => Option.casesOn (rdRK T k j) none (fun v => some (.inr (.inr v)))
  | .array _ => Option.casesOn (rdRK T k j) none (fun v => some (.inr (.inr v)))
  | _ => Option.casesOn (rdIK T k j) none (fun v => some (.inl v))
theorem rdF_okK {ty : FieldType} {T : aTK} {S : sS} {k j : Nat} {v : aV} (hS : gSK T S) (h : rdFK ty T k j = some v) : gV v (sv ty (S.1 k j) (S.2.1 k j) (S.2.2 k j)) := by sorry
noncomputable def wrFK (ty : FieldType) (T : aTK) (k j : Nat) (v : aV) : Option aTK := match ty, v with
  | .int, .inl i => putTK T k j (.inl i)
  | .boolean, .inl (.inl z) => bif decide (z = 0 ∨ z = 1) then putTK T k j (.inl (.inl z)) else none
  | .array _, .inr (.inr r) => putTK T k j (.inr (.inr r))
  | _, _ => none
theorem wrF_okK {ci j : Nat} {T T1 : aTK} {S : sS} {k : Nat} {v : aV} {w : Value} (hS : gSK T S) (hw : gV v w) (h : wrFK (fT ci j) T k j v = some T1) : ∃ S1, pF S ci k j w = some S1 ∧ gSK T1 S1 := by sorry
noncomputable def nxK (pc : Nat) (lv : List (Nat × aV)) (st : List aV) (T : aTK) : Option acfgK := frcN pc (fun pc => some (pc, lv, st, T))
theorem nx_eqK {pc : Nat} {lv : List (Nat × aV)} {st : List aV} {T : aTK} : nxK pc lv st T = some (pc, lv, st, T) := by sorry
noncomputable def puK (a : aI) (pc : Nat) (lv : List (Nat × aV)) (st : List aV) (T : aTK) : Option acfgK := frcA a (fun a => nxK pc lv (.inl a :: st) T)
theorem pu_eqK {a : aI} {pc : Nat} {lv : List (Nat × aV)} {st : List aV} {T : aTK} : puK a pc lv st T = some (pc, lv, .inl a :: st, T) := by sorry
noncomputable def pjK (a : Option Int) (pc : Nat) (lv : List (Nat × aV)) (st : List aV) (T : aTK) : Option acfgK := frcJ a (fun a => nxK pc lv (.inr (.inl a) :: st) T)
theorem pj_eqK {a : Option Int} {pc : Nat} {lv : List (Nat × aV)} {st : List aV} {T : aTK} : pjK a pc lv st T = some (pc, lv, .inr (.inl a) :: st, T) := by sorry
noncomputable def astpK (lay : Nat → Nat × Nat) (fL : Nat → Option (Nat × Nat × Bool)) (cL : Nat → Option Value) (nL : Nat) (i : Instr) : Option (Nat → List (Nat × aV) → List aV → aTK → Option acfgK) := match i with
  | .iconst n => some (fun pc lv st T => puK (.inl (Int32.ofInt n).toInt) (pc + 1) lv st T)
  | .bipush n => some (fun pc lv st T => puK (.inl ((Int8.ofInt n).toInt32).toInt) (pc + 2) lv st T)
  | .sipush n => some (fun pc lv st T => puK (.inl ((Int16.ofInt n).toInt32).toInt) (pc + 3) lv st T)
  | .lconst n => some (fun pc lv st T => pjK (some (Int64.ofNat (n : Nat)).toInt) (pc + 1) lv st T)
  | .iload_n k => some (fun pc lv st T => match algt lv k with
    | some (.inl i) => nxK (pc + 1) lv (.inl i :: st) T
    | _ => none)
  | .iload k => some (fun pc lv st T => match algt lv k with
    | some (.inl i) => nxK (pc + 2) lv (.inl i :: st) T
    | _ => none)
  | .lload_n k => some (fun pc lv st T => match algt lv k with
    | some (.inr (.inl i)) => nxK (pc + 1) lv (.inr (.inl i) :: st) T
    | _ => none)
  | .lload k => some (fun pc lv st T => match algt lv k with
    | some (.inr (.inl i)) => nxK (pc + 2) lv (.inr (.inl i) :: st) T
    | _ => none)
  | .aload_n k => some (fun pc lv st T => match algt lv k with
    | some (.inr (.inr (some i))) => nxK (pc + 1) lv (.inr (.inr (some i)) :: st) T
    | _ => none)
  | .aload k => some (fun pc lv st T => match algt lv k with
    | some (.inr (.inr (some i))) => nxK (pc + 2) lv (.inr (.inr (some i)) :: st) T
    | _ => none)
  | .istore_n k => bif Nat.blt (k : Nat) nL then some (fun pc lv st T => match st with
    | .inl i :: r => (match rm1 k lv with
      | some t => nxK (pc + 1) ((k, .inl i) :: t) r T
      | none => none)
    | _ => none) else none
  | .istore k => bif Nat.blt (k : Nat) nL then some (fun pc lv st T => match st with
    | .inl i :: r => (match rm1 k lv with
      | some t => nxK (pc + 2) ((k, .inl i) :: t) r T
      | none => none)
    | _ => none) else none
  | .lstore_n k => bif Nat.blt ((k : Nat) + 1) nL then some (fun pc lv st T => match st with
    | .inr (.inl i) :: r => (match rm2 k lv with
      | some t => nxK (pc + 1) ((k, .inr (.inl i)) :: t) r T
      | none => none)
    | _ => none) else none
  | .lstore k => bif Nat.blt ((k : Nat) + 1) nL then some (fun pc lv st T => match st with
    | .inr (.inl i) :: r => (match rm2 k lv with
      | some t => nxK (pc + 2) ((k, .inr (.inl i)) :: t) r T
      | none => none)
    | _ => none) else none
  | .astore_n k => bif Nat.blt (k : Nat) nL then some (fun pc lv st T => match st with
    | .inr (.inr (some i)) :: r => (match rm1 k lv with
      | some t => nxK (pc + 1) ((k, .inr (.inr (some i))) :: t) r T
      | none => none)
    | _ => none) else none
  | .astore k => bif Nat.blt (k : Nat) nL then some (fun pc lv st T => match st with
    | .inr (.inr (some i)) :: r => (match rm1 k lv with
      | some t => nxK (pc + 2) ((k, .inr (.inr (some i))) :: t) r T
      | none => none)
    | _ => none) else none
  | .iinc k n => bif Nat.blt k nL then some (fun pc lv st T => match algt lv k with
    | some (.inl i) => frcA (addA i (.inl (Int32.ofInt n).toInt)) (fun i1 => match rm1 k lv with
      | some t => nxK (pc + 3) ((k, .inl i1) :: t) st T
      | none => none)
    | _ => none) else none
  | .iadd => some (fun pc lv st T => match st with
    | .inl b :: .inl a :: r => puK (addA a b) (pc + 1) lv r T
    | _ => none)
  | .isub => some (fun pc lv st T => match st with
    | .inl b :: .inl a :: r => puK (subA a b) (pc + 1) lv r T
    | _ => none)
  | .iand => some (fun pc lv st T => match st with
    | .inl b :: .inl a :: r => puK (andA a b) (pc + 1) lv r T
    | _ => none)
  | .ishr => some (fun pc lv st T => match st with
    | .inl b :: .inl a :: r => puK (shrA a b) (pc + 1) lv r T
    | _ => none)
  | .imul => some (fun pc lv st T => match st with
    | .inl b :: .inl a :: r => puK (bin (fun x y => x * y) a b) (pc + 1) lv r T
    | _ => none)
  | .ior => some (fun pc lv st T => match st with
    | .inl b :: .inl a :: r => puK (bin (fun x y => x ||| y) a b) (pc + 1) lv r T
    | _ => none)
  | .ixor => some (fun pc lv st T => match st with
    | .inl b :: .inl a :: r => puK (bin (fun x y => x ^^^ y) a b) (pc + 1) lv r T
    | _ => none)
  | .ishl => some (fun pc lv st T => match st with
    | .inl b :: .inl a :: r => puK (bin (fun x y => x <<< (y &&& 31)) a b) (pc + 1) lv r T
    | _ => none)
  | .iushr => some (fun pc lv st T => match st with
    | .inl b :: .inl a :: r => puK (bin (fun x y => (x.toUInt32 >>> (y.toUInt32 &&& Int32.toUInt32 31)).toInt32) a b) (pc + 1) lv r T
    | _ => none)
  | .idiv => some (fun pc lv st T => match st with
    | .inl (.inl b) :: .inl (.inl a) :: r => bif decide (¬ Int32.ofInt b = 0) then puK (bin (fun x y => x / y) (.inl a) (.inl b)) (pc + 1) lv r T else none
    | _ => none)
  | .irem => some (fun pc lv st T => match st with
    | .inl (.inl b) :: .inl (.inl a) :: r => bif decide (¬ Int32.ofInt b = 0) then puK (bin (fun x y => x - x / y * y) (.inl a) (.inl b)) (pc + 1) lv r T else none
    | _ => none)
  | .ineg => some (fun pc lv st T => match st with
    | .inl a :: r => puK (un (fun x => -x) a) (pc + 1) lv r T
    | _ => none)
  | .i2b => some (fun pc lv st T => match st with
    | .inl a :: r => puK (unF (fun x => x.toInt8.toInt32) okB a) (pc + 1) lv r T
    | _ => none)
  | .i2c => some (fun pc lv st T => match st with
    | .inl a :: r => puK (unF (fun x => (x.toUInt32 % 65536).toInt32) okK a) (pc + 1) lv r T
    | _ => none)
  | .ladd => some (fun pc lv st T => match st with
    | .inr (.inl b) :: .inr (.inl a) :: r => pjK (binJ (fun x y => x + y) a b) (pc + 1) lv r T
    | _ => none)
  | .lsub => some (fun pc lv st T => match st with
    | .inr (.inl b) :: .inr (.inl a) :: r => pjK (binJ (fun x y => x - y) a b) (pc + 1) lv r T
    | _ => none)
  | .lmul => some (fun pc lv st T => match st with
    | .inr (.inl b) :: .inr (.inl a) :: r => pjK (binJ (fun x y => x * y) a b) (pc + 1) lv r T
    | _ => none)
  | .land => some (fun pc lv st T => match st with
    | .inr (.inl b) :: .inr (.inl a) :: r => pjK (binJ (fun x y => x &&& y) a b) (pc + 1) lv r T
    | _ => none)
  | .lor => some (fun pc lv st T => match st with
    | .inr (.inl b) :: .inr (.inl a) :: r => pjK (binJ (fun x y => x ||| y) a b) (pc + 1) lv r T
    | _ => none)
  | .ldiv => some (fun pc lv st T => match st with
    | .inr (.inl (some b)) :: .inr (.inl a) :: r => bif decide (¬ Int64.ofInt b = 0) then pjK (binJ (fun x y => x / y) a (some b)) (pc + 1) lv r T else none
    | _ => none)
  | .lrem => some (fun pc lv st T => match st with
    | .inr (.inl (some b)) :: .inr (.inl a) :: r => bif decide (¬ Int64.ofInt b = 0) then pjK (binJ (fun x y => x - x / y * y) a (some b)) (pc + 1) lv r T else none
    | _ => none)
  | .lushr => some (fun pc lv st T => match st with
    | .inl b :: .inr (.inl a) :: r => pjK (shJ (fun x y => (x.toUInt64 >>> (y.toInt64.toUInt64 &&& Int64.toUInt64 63)).toInt64) a b) (pc + 1) lv r T
    | _ => none)
  | .lshl => some (fun pc lv st T => match st with
    | .inl b :: .inr (.inl a) :: r => pjK (shJ (fun x y => x <<< (y.toInt64 &&& 63)) a b) (pc + 1) lv r T
    | _ => none)
  | .lshr => some (fun pc lv st T => match st with
    | .inl b :: .inr (.inl a) :: r => pjK (shJ (fun x y => x >>> (y.toInt64 &&& 63)) a b) (pc + 1) lv r T
    | _ => none)
  | .lcmp => some (fun pc lv st T => match st with
    | .inr (.inl b) :: .inr (.inl a) :: r => puK (cmpJ a b) (pc + 1) lv r T
    | _ => none)
  | .i2l => some (fun pc lv st T => match st with
    | .inl a :: r => pjK (i2lA a) (pc + 1) lv r T
    | _ => none)
  | .l2i => some (fun pc lv st T => match st with
    | .inr (.inl a) :: r => puK (l2iA a) (pc + 1) lv r T
    | _ => none)
  | .getstatic ix => (match fL ix with
    | some (ci, _, _) => bif Nat.beq ci 91 then some (fun pc lv st T => nxK (pc + 3) lv (.inl (.inl 1) :: st) T) else none
    | none => none)
  | .dup => some (fun pc lv st T => match st with
    | v :: r => bif isJ v then none else nxK (pc + 1) lv (v :: v :: r) T
    | _ => none)
  | .pop => some (fun pc lv st T => match st with
    | v :: r => bif isJ v then none else nxK (pc + 1) lv r T
    | _ => none)
  | .dup2 => some (fun pc lv st T => match st with
    | v :: u :: r => bif isJ v then none else bif isJ u then none else nxK (pc + 1) lv (v :: u :: v :: u :: r) T
    | _ => none)
  | .ifCond c off => some (fun pc lv st T => match st with
    | .inl a :: r => (match jm pc off with
      | some t => (match cndA c a (.inl 0) with
        | some true => nxK t lv r T
        | some false => nxK (pc + 3) lv r T
        | none => none)
      | none => none)
    | _ => none)
  | .if_icmp c off => some (fun pc lv st T => match st with
    | .inl b :: .inl a :: r => (match jm pc off with
      | some t => (match cndA c a b with
        | some true => nxK t lv r T
        | some false => nxK (pc + 3) lv r T
        | none => none)
      | none => none)
    | _ => none)
  | .goto off => some (fun pc lv st T => match jm pc off with
    | some t => nxK t lv st T
    | none => none)
  | .tableswitch d lo hi offs => some (fun pc lv st T => match st with
    | .inl a :: r => bif decide (hiA a < lo) || decide (hi < loA a) then (match jm pc d with
      | some t => nxK t lv r T
      | none => none) else (match a with
      | .inl z => bif decide (lo ≤ z) && decide (z ≤ hi) then (match offs[(z - lo).toNat]? with
        | some o => (match jm pc o with
          | some t => nxK t lv r T
          | none => none)
        | none => none) else none
      | .inr _ => none)
    | _ => none)
  | .lookupswitch d ps => bif (ps.toList.zip (ps.toList.drop 1)).all (fun (a, next) => a.1 < next.1) then some (fun pc lv st T => match st with
    | .inl (.inl z) :: r => (match jm pc (Op.lookupswitch.offset ps.toList d z) with
      | some t => nxK t lv r T
      | none => none)
    | _ => none) else none
  | .getfield ix => (match fL ix with
    | some (ci, j, _) => bif Nat.blt ci 90 then some (fun pc lv st T => match st with
      | .inr (.inr (some k)) :: r => bif layIs lay k 0 ci then (match rdFK (fT ci j) T k j with
        | some v => nxK (pc + 3) lv (v :: r) T
        | none => none) else none
      | _ => none) else bif Nat.beq ci 90 then some (fun pc lv st T => match st with
      | .inr (.inr (some k)) :: r => bif Nat.ble SB k && (strT[k - SB]?).isSome then (bif Nat.beq j 0 then frcN (SV + (k - SB)) (fun b => nxK (pc + 3) lv (.inr (.inr (some b)) :: r) T) else nxK (pc + 3) lv (.inl (.inl 0) :: r) T) else none
      | _ => none) else none
    | none => none)
  | .putfield ix => (match fL ix with
    | some (ci, j, false) => bif Nat.blt ci 90 && !(gF ci j) then some (fun pc lv st T => match st with
      | v :: .inr (.inr (some k)) :: r => bif layIs lay k 0 ci then (match wrFK (fT ci j) T k j v with
        | some T1 => nxK (pc + 3) lv r T1
        | none => none) else none
      | _ => none) else none
    | _ => none)
  | .iaload => some (fun pc lv st T => match st with
    | .inl a :: .inr (.inr (some k)) :: r => bif Nat.beq (lay k).1 1 then (match idx a (lay k).2 with
      | some n => (match rdIK T k n with
        | some v => nxK (pc + 1) lv (.inl v :: r) T
        | none => none)
      | none => none) else none
    | _ => none)
  | .laload => some (fun pc lv st T => match st with
    | .inl a :: .inr (.inr (some k)) :: r => bif Nat.beq (lay k).1 2 then (match idx a (lay k).2 with
      | some n => (match rdJK T k n with
        | some v => nxK (pc + 1) lv (.inr (.inl v) :: r) T
        | none => none)
      | none => none) else none
    | _ => none)
  | .aaload => some (fun pc lv st T => match st with
    | .inl a :: .inr (.inr (some k)) :: r => bif Nat.beq (lay k).1 5 || Nat.beq (lay k).1 6 then (match idx a (lay k).2 with
      | some n => (match rdRK T k n with
        | some v => nxK (pc + 1) lv (.inr (.inr v) :: r) T
        | none => none)
      | none => none) else none
    | _ => none)
  | .baload => some (fun pc lv st T => match st with
    | .inl a :: .inr (.inr (some k)) :: r => bif Nat.ble SV k then (match strT[k - SV]? with
      | some q => (match idx a q.2.2.2.length with
        | some n => puK (.inl (q.2.2.2.getD n 0).toInt) (pc + 1) lv r T
        | none => none)
      | none => none) else bif Nat.beq (lay k).1 3 || Nat.beq (lay k).1 4 then (match idx a (lay k).2 with
      | some n => (match rdIK T k n with
        | some v => nxK (pc + 1) lv (.inl v :: r) T
        | none => none)
      | none => none) else none
    | _ => none)
  | .iastore => some (fun pc lv st T => match st with
    | .inl v :: .inl a :: .inr (.inr (some k)) :: r => bif Nat.beq (lay k).1 1 then (match idx a (lay k).2 with
      | some n => (match putTK T k n (.inl v) with
        | some T1 => nxK (pc + 1) lv r T1
        | none => none)
      | none => none) else none
    | _ => none)
  | .lastore => some (fun pc lv st T => match st with
    | .inr (.inl v) :: .inl a :: .inr (.inr (some k)) :: r => bif Nat.beq (lay k).1 2 then (match idx a (lay k).2 with
      | some n => (match putTK T k n (.inr (.inl v)) with
        | some T1 => nxK (pc + 1) lv r T1
        | none => none)
      | none => none) else none
    | _ => none)
  | .bastore => some (fun pc lv st T => match st with
    | .inl v :: .inl a :: .inr (.inr (some k)) :: r => (match idx a (lay k).2 with
      | some n => bif Nat.beq (lay k).1 3 then frcA (unF (vp_nar .byte) okB v) (fun v => match putTK T k n (.inl v) with
        | some T1 => nxK (pc + 1) lv r T1
        | none => none) else bif Nat.beq (lay k).1 4 then frcA (unF (vp_nar .boolean) okU v) (fun v => match putTK T k n (.inl v) with
        | some T1 => nxK (pc + 1) lv r T1
        | none => none) else none
      | none => none)
    | _ => none)
  | .arraylength => some (fun pc lv st T => match st with
    | .inr (.inr (some k)) :: r => bif Nat.ble SV k then (match strT[k - SV]? with
      | some q => puK (.inl (Int32.ofNat q.2.2.2.length).toInt) (pc + 1) lv r T
      | none => none) else bif Nat.ble 1 (lay k).1 && Nat.ble (lay k).1 6 then puK (.inl (Int32.ofNat (lay k).2).toInt) (pc + 1) lv r T else none
    | _ => none)
  | .ldc ix => (match cL ix with
    | some (.int v) => some (fun pc lv st T => puK (.inl v.toInt) (pc + 2) lv st T)
    | some (.ref k) => some (fun pc lv st T => nxK (pc + 2) lv (.inr (.inr (some k)) :: st) T)
    | _ => none)
  | .ldc_w ix => (match cL ix with
    | some (.int v) => some (fun pc lv st T => puK (.inl v.toInt) (pc + 3) lv st T)
    | some (.ref k) => some (fun pc lv st T => nxK (pc + 3) lv (.inr (.inr (some k)) :: st) T)
    | _ => none)
  | .ldc2_w ix => (match cL ix with
    | some (.long v) => some (fun pc lv st T => pjK (some v.toInt) (pc + 3) lv st T)
    | _ => none)
  | _ => none
set_option maxHeartbeats 4000000 in
theorem astp_okK {lay : Nat → Nat × Nat} {fL : Nat → Option (Nat × Nat × Bool)} {cL : Nat → Option Value} {nL : Nat} {i : Instr} {f : Nat → List (Nat × aV) → List aV → aTK → Option acfgK} (hf : astpK lay fL cL nL i = some f) {pc pc1 : Nat} {lv : List (Nat × Value)} {al al1 : List (Nat × aV)} {st : List Value} {as as1 : List aV} {S : sS} {T T1 : aTK} (hl : gL al lv) (hs : gSt as st) (hS : gSK T S) (h : f pc al as T = some (pc1, al1, as1, T1)) :
    ∃ lv1 st1 S1, stp lay fL cL nL i pc lv st S = some (pc1, lv1, st1, S1) ∧ gL al1 lv1 ∧ gSt as1 st1 ∧ gSK T1 S1 := by sorry
abbrev aFK : Type := Nat → List (Nat × aV) → List aV → aTK → Option acfgK
abbrev aOK : Type := Sum aFK (Sum (Nat × mT × Nat) Nat)
abbrev acalK : Type := mT → List aV → aTK → Option (Option aV × aTK)
def aopCK (kL : Nat → Option (Nat × mT × Nat)) (i : Instr) : Option aOK := match i with
  | .invokevirtual ix => (match kL ix with
    | some (0, md, na) => some (.inr (.inl (0, md, na)))
    | some (4, md, na) => some (.inr (.inl (4, md, na)))
    | _ => none)
  | .invokestatic ix => (match kL ix with
    | some (1, md, na) => some (.inr (.inl (1, md, na)))
    | some (3, md, na) => some (.inr (.inl (3, md, na)))
    | some (9, _, _) => some (.inr (.inr 9))
    | some (10, _, _) => some (.inr (.inr 10))
    | some (11, _, _) => some (.inr (.inr 11))
    | some (12, _, _) => some (.inr (.inr 12))
    | _ => none)
  | .ireturn => some (.inr (.inr 20))
  | .lreturn => some (.inr (.inr 21))
  | .areturn => some (.inr (.inr 22))
  | .return_ => some (.inr (.inr 23))
  | _ => none
noncomputable def aopK (lay : Nat → Nat × Nat) (fL : Nat → Option (Nat × Nat × Bool)) (cL : Nat → Option Value) (kL : Nat → Option (Nat × mT × Nat)) (nL : Nat) (code : List (Nat × Instr)) (pc : Nat) : Option aOK := match lkR code pc with
  | none => none
  | some i => bif isC i then aopCK kL i else (match astpK lay fL cL nL i with
    | some f => some (.inl f)
    | none => none)
noncomputable def aretK {β : Type} (fin : Option aV → aTK → Option β) (ret : Option FieldType) (t : Nat) (st : List aV) (T : aTK) : Option β :=
  bif Nat.beq t 20 then (match st with
    | [.inl a] => bif retIA ret a then fin (some (.inl a)) T else none
    | _ => none)
  else bif Nat.beq t 21 then (match st with
    | [.inr (.inl a)] => (match ret with
      | some .long => fin (some (.inr (.inl a))) T
      | _ => none)
    | _ => none)
  else bif Nat.beq t 22 then (match st with
    | [.inr (.inr a)] => bif retA ret (rv a) then fin (some (.inr (.inr a))) T else none
    | _ => none)
  else bif Nat.beq t 23 then (match st with
    | [] => (match ret with
      | none => fin none T
      | _ => none)
    | _ => none)
  else none
/-- one round: a step, a call, Math, or the end -/
noncomputable def adspK {β : Type} (fin : Option aV → aTK → Option β) (lay : Nat → Nat × Nat) (ret : Option FieldType) (call : acalK) (ih : Nat → List (Nat × aV) → List aV → aTK → Option β) (o : Option aOK) (pc : Nat) (lv : List (Nat × aV)) (st : List aV) (T : aTK) : Option β := match o with
  | none => none
  | some (.inl f) => (match f pc lv st T with
    | some (pc1, lv1, st1, T1) => ih pc1 lv1 st1 T1
    | none => none)
  | some (.inr (.inl (kd, md, na))) => (match spl (bif Nat.beq kd 0 || Nat.beq kd 4 then Nat.succ na else na) [] st with
    | some (av, r) => bif acO lay kd md.2.2.2.2.1 av r then (match call md av T with
      | some (some v, T1) => frcN (Nat.add pc 3) (fun pc => ih pc lv (v :: r) T1)
      | some (none, T1) => frcN (Nat.add pc 3) (fun pc => ih pc lv r T1)
      | none => none) else none
    | none => none)
  | some (.inr (.inr t)) => bif Nat.blt t 20 then (bif Nat.beq t 9 then (match acpy lay st with
    | some r => frcN (Nat.add pc 3) (fun pc => ih pc lv r T)
    | none => none) else (match amth t st with
    | some (a, r) => frcA a (fun a => frcN (Nat.add pc 3) (fun pc => ih pc lv (.inl a :: r) T))
    | none => none)) else aretK fin ret t st T
def finRK (r : Option aV) (T : aTK) : Option (Option aV × aTK) := some (r, T)
noncomputable def arunK (lay : Nat → Nat × Nat) (fL : Nat → Option (Nat × Nat × Bool)) (cL : Nat → Option Value) (kL : Nat → Option (Nat × mT × Nat)) (nL : Nat) (ret : Option FieldType) (call : acalK) (code : List (Nat × Instr)) (F : Nat) : Nat → List (Nat × aV) → List aV → aTK → Option (Option aV × aTK) := Nat.rec (motive := fun _ => Nat → List (Nat × aV) → List aV → aTK → Option (Option aV × aTK)) (fun _ _ _ _ => none) (fun _ ih pc lv st T => adspK finRK lay ret call ih (aopK lay fL cL kL nL code pc) pc lv st T) F
noncomputable def ackIK (av : List aV) (T : aTK) : Option (Option aV × aTK) := match av with
  | [.inl (.inl x), .inl (.inl n)] => bif decide (0 ≤ x) && decide (x < n) then some (none, T) else none
  | _ => none
noncomputable def aevdK (lay : Nat → Nat × Nat) (F d : Nat) : acalK := Nat.rec (motive := fun _ => acalK) (fun _ _ _ => none) (fun _ ih q av T => bif Nat.beq q.2.2.2.2.1 99 then ackIK av T else bif Nat.ble (acs av) q.2.2.1 then (match alv av 0 with
  | some al => arunK lay (fLs q.2.2.2.2.1) (cLs q.2.2.2.2.1) (kLs q.2.2.2.2.1) q.2.2.1 q.2.2.2.1 ih q.2.2.2.2.2 F 0 al [] T
  | none => none) else none) d
/-- what a call must keep -/
def gCalK (ac : acalK) (c : cal) : Prop := ∀ md av T r T1, ac md av T = some (r, T1) → ∀ vs S, gSt av vs → gSK T S → ∃ r1 S1, c md vs S = some (r1, S1) ∧ gO r r1 ∧ gSK T1 S1
section ARK
variable {lay : Nat → Nat × Nat} {fL : Nat → Option (Nat × Nat × Bool)} {cL : Nat → Option Value} {kL : Nat → Option (Nat × mT × Nat)} {nL : Nat} {ret : Option FieldType} {call : cal} {code : List (Nat × Instr)} {F pc : Nat} {lv : List (Nat × Value)} {st : List Value} {S S1 : sS} {ix na : Nat} {md : mT}
theorem adsp_callK {call : acalK} {ih : Nat → List (Nat × aV) → List aV → aTK → Option (Option aV × aTK)} {kd pc : Nat} {al : List (Nat × aV)} {as : List aV} {T T0 : aTK} {r0 : Option aV} (h : adspK finRK lay ret call ih (some (.inr (.inl (kd, md, na)))) pc al as T = some (r0, T0)) : ∃ av r ra T1, spl (bif Nat.beq kd 0 || Nat.beq kd 4 then Nat.succ na else na) [] as = some (av, r) ∧ acO lay kd md.2.2.2.2.1 av r = true ∧ call md av T = some (ra, T1) ∧ ih (pc + 3) al (match (generalizing := false) ra with | some v => v :: r | none => r) T1 = some (r0, T0) := by sorry
theorem arun_okK {acall : acalK} (hcall : gCalK acall call) : ∀ (F pc : Nat) (al : List (Nat × aV)) (as : List aV) (T : aTK) (r0 : Option aV) (T0 : aTK), arunK lay fL cL kL nL ret acall code F pc al as T = some (r0, T0) → ∀ (lv : List (Nat × Value)) (st : List Value) (S : sS), gL al lv → gSt as st → gSK T S → ∃ r1 S1, run lay fL cL kL nL ret call code F pc lv st S = some (r1, S1) ∧ gO r0 r1 ∧ gSK T0 S1 := by sorry
end ARK
theorem aevd_okK {lay : Nat → Nat × Nat} {F : Nat} : ∀ d, gCalK (aevdK lay F d) (evd lay F d) := by sorry
end
section
/-! what a run of known cells says -/
theorem kn_evr {q : mT} {F d : Nat} {av : List aV} {vs : List Value} {A B : sS} {r : Option Value} {T T1 : aTK} {r0 : Option aV} (h : aevdK lay0 F d q av T = some (r0, T1)) (hv : gSt av vs) (hA : gSK T A) (e : EVR q vs A r B) : gSK T1 B := by sorry
noncomputable def eTK (n : Nat) : Tr aRK n := Nat.rec (motive := fun n => Tr aRK n) ((0, []) : aRK) (fun _ t => (t, t)) n
theorem eTK_rd : ∀ (n k : Nat), rdT n (eTK n) k = (0, []) := by sorry
theorem eTK_g (S : sS) : gSK (eTK 10) S := by sorry
noncomputable def mkK (L : List (Nat × Nat × Nat)) : Option aTK := List.rec (some (eTK 10)) (fun q _ ih => match ih with
  | some T => putTK T q.1 q.2.1 (.inr (.inr (some q.2.2)))
  | none => none) L
theorem mkK_ok {S : sS} : ∀ (L : List (Nat × Nat × Nat)) (T : aTK), mkK L = some T → (∀ q ∈ L, S.2.2 q.1 q.2.1 = some q.2.2) → gSK T S := by sorry
def isIK (o : Option aV) (v : Int) : Bool := match o with
  | some (.inl (.inl z)) => decide (z = v)
  | _ => false
def isJK (o : Option aV) (v : Int) : Bool := match o with
  | some (.inr (.inl (some z))) => decide (z = v)
  | _ => false
theorem isIK_ok {T : aTK} {S : sS} {k j : Nat} {v : Int} (g : gSK T S) (h : isIK (lookK T k j) v = true) : Xi S k j = v := by sorry
theorem isJK_ok {T : aTK} {S : sS} {k j : Nat} {v : Int} (g : gSK T S) (h : isJK (lookK T k j) v = true) : Xj S k j = v := by sorry
noncomputable def rwIK (T : aTK) (k : Nat) (L : List Int) : Nat → Bool := List.rec (motive := fun _ => Nat → Bool) (fun _ => true) (fun v _ ih j => isIK (lookK T k j) v && frcN (Nat.succ j) ih) L
noncomputable def rwJK (T : aTK) (k : Nat) (L : List Int) : Nat → Bool := List.rec (motive := fun _ => Nat → Bool) (fun _ => true) (fun v _ ih j => isJK (lookK T k j) v && frcN (Nat.succ j) ih) L
theorem rwIK_ok {T : aTK} {S : sS} {k : Nat} (g : gSK T S) : ∀ (L : List Int) (j : Nat), rwIK T k L j = true → ∀ i, i < L.length → Xi S k (j + i) = L.getD i 0 := by sorry
theorem rwJK_ok {T : aTK} {S : sS} {k : Nat} (g : gSK T S) : ∀ (L : List Int) (j : Nat), rwJK T k L j = true → ∀ i, i < L.length → Xj S k (j + i) = L.getD i 0 := by sorry
noncomputable def rwZK (T : aTK) (k n : Nat) : Bool := bif Nat.blt k 1024 then (bif Nat.ble n (rdT 10 T k).1 then (rdT 10 T k).2.all (fun p => Nat.ble n p.1) else false) else false
theorem lkV_a {l : aC} {j : Nat} : ∀ {v : aV}, lkV l j = some v → ∃ p ∈ l, p.1 = j := by sorry
theorem rwZK_ok {T : aTK} {S : sS} {k n : Nat} (g : gSK T S) (h : rwZK T k n = true) : ∀ i, i < n → Xi S k i = 0 := by sorry
noncomputable def chkK (LI LJ : List (Nat × List Int)) (F G : List (Nat × Nat × Int)) (Z : List (Nat × Nat)) (T : aTK) : Bool := LI.all (fun q => rwIK T q.1 q.2 0) && (LJ.all (fun q => rwJK T q.1 q.2 0) && (F.all (fun q => isIK (lookK T q.1 q.2.1) q.2.2) && (G.all (fun q => isJK (lookK T q.1 q.2.1) q.2.2) && Z.all (fun q => rwZK T q.1 q.2))))
/-- what is known behind a run -/
def KNF (LI LJ : List (Nat × List Int)) (F G : List (Nat × Nat × Int)) (Z : List (Nat × Nat)) (B : sS) : Prop := (∀ q ∈ LI, ∀ i, i < q.2.length → Xi B q.1 i = q.2.getD i 0) ∧ (∀ q ∈ LJ, ∀ i, i < q.2.length → Xj B q.1 i = q.2.getD i 0) ∧ (∀ q ∈ F, Xi B q.1 q.2.1 = q.2.2) ∧ (∀ q ∈ G, Xj B q.1 q.2.1 = q.2.2) ∧ ∀ q ∈ Z, ∀ i, i < q.2 → Xi B q.1 i = 0
theorem chkK_ok {LI LJ : List (Nat × List Int)} {F G : List (Nat × Nat × Int)} {Z : List (Nat × Nat)} {T : aTK} {B : sS} (g : gSK T B) (h : chkK LI LJ F G Z T = true) : KNF LI LJ F G Z B := by sorry
noncomputable def runK (q : mT) (o : Nat) (R : List (Nat × Nat × Nat)) (LI LJ : List (Nat × List Int)) (F G : List (Nat × Nat × Int)) (Z : List (Nat × Nat)) : Bool := match mkK R with
  | some T => (match aevdK lay0 60000 12 q [.inr (.inr (some o))] T with
    | some (_, T1) => chkK LI LJ F G Z T1
    | none => false)
  | none => false
def refK (k j a : Nat) : Bool := (match rT k j with
  | some b => Nat.beq b a
  | none => false) || rRw.any (fun q => Nat.beq q.1 k && (Nat.blt j q.2.2 && Nat.beq (q.2.1 + j) a))
theorem refK_ok {A : sS} (h : HI A) {k j a : Nat} (r : refK k j a = true) : A.2.2 k j = some a := by sorry
theorem knf_i {A B : sS} {q : mT} {o : Nat} {R : List (Nat × Nat × Nat)} {LI LJ : List (Nat × List Int)} {F G : List (Nat × Nat × Int)} {Z : List (Nat × Nat)} {r : Option Value} (h : HI A) (hr : R.all (fun q => refK q.1 q.2.1 q.2.2) = true) (hk : runK q o R LI LJ F G Z = true) (e : EVR q [.ref o] A r B) : KNF LI LJ F G Z B := by sorry
/-! rs_startAgain, run in the kernel: what it leaves, whatever was there before -/
def kRc : List (Nat × Nat × Nat) := [(0, 0, 1), (0, 1, 20), (0, 2, 246), (0, 3, 882), (0, 6, 891), (1, 0, 2), (1, 1, 3), (1, 2, 4), (1, 4, 5), (1, 5, 6), (1, 6, 7), (1, 8, 9), (1, 9, 10), (1, 10, 11), (1, 18, 19), (20, 0, 1), (20, 2, 21), (20, 3, 22), (20, 4, 23), (20, 5, 24), (20, 6, 65), (20, 9, 188), (20, 10, 195), (24, 0, 25), (24, 1, 26), (24, 2, 27), (24, 3, 28), (24, 4, 29), (24, 5, 30), (24, 6, 31), (24, 7, 32), (24, 8, 33), (24, 9, 34), (24, 10, 35), (24, 11, 36), (24, 12, 37), (24, 13, 38), (24, 14, 39), (24, 15, 40), (24, 16, 41), (24, 17, 42), (24, 18, 43), (24, 19, 44), (24, 20, 45), (24, 21, 46), (24, 22, 47), (24, 23, 48), (24, 24, 49), (24, 25, 50), (24, 26, 51), (24, 27, 52), (24, 28, 53), (24, 29, 54), (24, 30, 55), (24, 31, 56), (24, 32, 57), (24, 33, 58), (24, 34, 59), (24, 35, 60), (24, 36, 61), (24, 37, 62), (24, 38, 63), (24, 39, 64), (65, 0, 66), (65, 1, 67), (65, 2, 68), (65, 3, 69), (65, 4, 70), (65, 5, 71), (65, 6, 72), (65, 7, 73), (65, 8, 74), (65, 9, 75), (65, 10, 76), (65, 11, 77), (65, 12, 78), (65, 13, 79), (65, 14, 80), (65, 15, 81), (65, 16, 82), (65, 17, 83), (65, 18, 84), (65, 19, 85), (65, 20, 86), (65, 21, 87), (65, 22, 88), (65, 23, 89), (65, 24, 90), (65, 25, 91), (65, 26, 92), (65, 27, 93), (65, 28, 94), (65, 29, 95), (65, 30, 96), (65, 31, 97), (65, 32, 98), (65, 33, 99), (65, 34, 100), (65, 35, 101), (65, 36, 102), (65, 37, 103), (65, 38, 104), (65, 39, 105), (188, 0, 189), (188, 1, 190), (188, 2, 191), (188, 3, 192), (188, 4, 193), (188, 5, 194), (195, 0, 196), (195, 1, 197), (195, 2, 198), (195, 3, 199), (195, 4, 200), (195, 5, 201), (195, 6, 202), (195, 7, 203), (195, 8, 204), (195, 9, 205), (195, 10, 206), (195, 11, 207), (195, 12, 208), (195, 13, 209), (195, 14, 210), (195, 15, 211), (195, 16, 212), (195, 17, 213), (195, 18, 214), (195, 19, 215), (195, 20, 216), (195, 21, 217), (195, 22, 218), (195, 23, 219), (882, 4, 883), (882, 5, 884), (882, 6, 885), (882, 7, 886), (882, 8, 887)]
def kIc : List (Nat × List Int) := [(3, [0, 11, 0, 11, 0, 11, 0, 11, 0, 11, 1, 1, 5, 3, 3, 8, 8, 8, 8, 8, 14, 14, 14, 14, 14, 14, 2]), (4, [0, 0, 1, 1, 2, 2, 3, 3, 4, 4, 0, 1, 0, 0, 1, 0, 1, 2, 3, 4, 0, 1, 2, 3, 4, 5, 0]), (5, [5, 2, 1, 2, 0, 1, 0, 0, 5]), (6, [-1, -1, 0, 0, 0]), (7, [1, 1, 0, 0, 0]), (9, [1]), (11, [1, 0]), (19, [-1, 0, 0, 0, -2]), (21, [4]), (23, [-1]), (196, [-1, -1, -1, -1, -1, -1]), (197, [-1, -1, -1, -1, -1, -1]), (198, [-1, -1, -1, -1, -1, -1]), (199, [-1, -1, -1, -1, -1, -1]), (200, [-1, -1, -1, -1, -1, -1]), (201, [-1, -1, -1, -1, -1, -1]), (202, [-1, -1, -1, -1, -1, -1]), (203, [-1, -1, -1, -1, -1, -1]), (204, [-1, -1, -1, -1, -1, -1]), (205, [-1, -1, -1, -1, -1, -1]), (206, [-1, -1, -1, -1, -1, -1]), (207, [-1, -1, -1, -1, -1, -1]), (208, [-1, -1, -1, -1, -1, -1]), (209, [-1, -1, -1, -1, -1, -1]), (210, [-1, -1, -1, -1, -1, -1]), (211, [-1, -1, -1, -1, -1, -1]), (212, [-1, -1, -1, -1, -1, -1]), (213, [-1, -1, -1, -1, -1, -1]), (214, [-1, -1, -1, -1, -1, -1]), (215, [-1, -1, -1, -1, -1, -1]), (216, [-1, -1, -1, -1, -1, -1]), (217, [-1, -1, -1, -1, -1, -1]), (218, [-1, -1, -1, -1, -1, -1]), (219, [-1, -1, -1, -1, -1, -1]), (883, [0, 1, 1, 2, 3, 4, 4]), (884, [1, 2, 2, 2, 2, 2, 1]), (885, [-1, 1, 1, 1, 1, 1, 0]), (886, [-1, 0, 0, 0, 0, -2, -2])]
def kJc : List (Nat × List Int) := [(2, [10793230, 0, 0, 291417229, 0, 0, 365647, 0, 0, 9872488, 0, 0, 1009905491421, 0, 0, 27267448268386, 0, 0, 5592265261380, 0, 0, 150991162057279, 0, 0, 232608281, 0, 0, 232546955, 0, 0, 212302449, 0, 0, 397973, 0, 0, 867097169668940, 0, 0, 3383428, 0, 0, 173445889199, 0, 0, 8930203729, 0, 0, 287733040, 0, 0, 49039040149, 0, 0, 1663775181034, 0, 0, 4022278, 0, 0, 7749089, 0, 0, 10408481, 0, 0, 99677, 0, 0, 456887, 0, 0, 583, 0, 0, 90302, 0, 0, 235997865, 0, 0])]
def kFc : List (Nat × Nat × Int) := [(1, 3, 27), (20, 12, 0), (246, 2, 0), (246, 5, 0), (246, 8, 0), (882, 3, 7), (891, 10, -1)]
def kGc : List (Nat × Nat × Int) := [(887, 0, 453701), (887, 8, 394691), (887, 16, 5258), (887, 24, 92275), (887, 32, 2282270477), (887, 40, 204)]
def kZc : List (Nat × Nat) := [(10, 2), (22, 1), (25, 24), (26, 24), (27, 24), (28, 24), (29, 24), (30, 24), (31, 24), (32, 24), (33, 24), (34, 24), (35, 24), (36, 24), (37, 24), (38, 24), (39, 24), (40, 24), (41, 24), (42, 24), (43, 24), (44, 24), (45, 24), (46, 24), (47, 24), (48, 24), (49, 24), (50, 24), (51, 24), (52, 24), (53, 24), (54, 24), (55, 24), (56, 24), (57, 24), (58, 24), (59, 24), (60, 24), (61, 24), (62, 24), (63, 24), (64, 24), (66, 12), (67, 12), (68, 12), (69, 12), (70, 12), (71, 12), (72, 12), (73, 12), (74, 12), (75, 12), (76, 12), (77, 12), (78, 12), (79, 12), (80, 12), (81, 12), (82, 12), (83, 12), (84, 12), (85, 12), (86, 12), (87, 12), (88, 12), (89, 12), (90, 12), (91, 12), (92, 12), (93, 12), (94, 12), (95, 12), (96, 12), (97, 12), (98, 12), (99, 12), (100, 12), (101, 12), (102, 12), (103, 12), (104, 12), (105, 12), (189, 24), (190, 24), (191, 24), (192, 24), (193, 24), (194, 24)]
theorem kn_runc : runK m_rs_startAgain 0 kRc kIc kJc kFc kGc kZc = true := by sorry
theorem kn_refc : kRc.all (fun q => refK q.1 q.2.1 q.2.2) = true := by sorry
theorem kn_c {A B : sS} (h : HI A) (e : EVR m_rs_startAgain [.ref 0] A none B) : KNF kIc kJc kFc kGc kZc B := by sorry
/-! mo_begin, run in the kernel: what it leaves, whatever was there before -/
def kRr : List (Nat × Nat × Nat) := [(904, 10, 912), (904, 11, 913), (904, 12, 914), (904, 13, 915), (904, 14, 916), (904, 17, 917), (904, 20, 918), (904, 21, 919), (904, 22, 920), (904, 24, 921), (904, 25, 922), (904, 27, 924), (904, 28, 925), (904, 29, 926), (904, 33, 928), (904, 34, 929), (904, 35, 930), (904, 38, 933), (904, 46, 940), (904, 50, 942), (904, 56, 946), (904, 57, 947), (904, 58, 948), (904, 59, 949)]
def kIr : List (Nat × List Int) := [(912, [1, 1, 1, 1, 1, 1, 1, 1, 1, 1, 1, 1, 1, 1, 1, 1, 1, 1, 1, 1, 1, 1, 1, 1, 1, 1, 1]), (914, [0, 1, 0, 1, 0, 1, 0, 1, 0, 1, 2, 2, 5, 5, 7, 4, 11, 11, 11, 11, 11, 12, 12, 12, 12, 12, 12]), (915, [0, 0, 1, 1, 2, 2, 3, 3, 4, 4, 0, 1, 0, 1, 0, 0, 0, 1, 2, 3, 4, 0, 1, 2, 3, 4, 5]), (917, [-1, -1, 0, 0, 0]), (918, [4]), (920, [-1]), (922, [1, 0]), (928, [1]), (929, [1, 0, 0, 0, 0, 0, 0, 0, 0, 0, 0, 0, 1, 0, 0, 0, 0, 0, 0, 0, 0, 0, 0, 0, 0, 0, 0, 0, 0, 0, 0, 0, 0, 0, 0, 0, 0, 0, 0, 0, 0, 0, 0, 0, 0, 0, 0, 0, 0, 0, 0, 0, 0, 0, 0, 0, 0, 0, 0, 0]), (942, [-1, 0, 0, 0, -2]), (946, [0, 1, 1, 2, 3, 4, 4]), (947, [1, 2, 2, 2, 2, 2, 1]), (949, [-1, 0, 0, 0, 0, -2, -2])]
def kJr : List (Nat × List Int) := [(913, [21243335, 0, 0, 679786739, 0, 0, 605677, 0, 0, 19381683, 0, 0, 3829635791026, 0, 0, 122548345312851, 0, 0, 21630008512690, 0, 0, 692160272406099, 0, 0, 542723566, 0, 0, 542622085, 0, 0, 492210354, 0, 0, 661268, 0, 0, 6611108, 0, 0, 566486927749, 0, 0, 4700534934742510, 0, 0, 549512370, 0, 0, 24739718599, 0, 0, 672507335, 0, 0, 157286933959, 0, 0, 6323711714759, 0, 0, 7841223, 0, 0, 15190664, 0, 0, 20436616, 0, 0, 165492, 0, 0, 759412, 0, 0, 688, 0, 0, 147182, 0, 0])]
def kFr : List (Nat × Nat × Int) := [(904, 15, 27), (904, 16, 5), (904, 18, 2), (904, 19, 1), (904, 23, 2), (904, 30, 0), (904, 32, 1), (904, 41, 0), (904, 47, 0), (904, 49, 5), (904, 51, 0), (904, 55, 7), (904, 60, -1), (904, 117, 0), (904, 125, 0), (904, 130, 0), (904, 156, 0)]
def kGr : List (Nat × Nat × Int) := [(948, 0, 754996), (948, 8, 656741), (948, 9, 0), (948, 16, 7348), (948, 17, 0), (948, 24, 150000), (948, 25, 0), (948, 32, 6175499717), (948, 33, 0), (948, 40, 239), (948, 41, 0), (948, 48, 0)]
def kZr : List (Nat × Nat) := [(916, 27), (919, 1), (921, 2), (924, 2), (925, 24), (926, 120), (930, 12), (933, 60), (940, 3456)]
theorem kn_runr : runK m_mo_begin 904 kRr kIr kJr kFr kGr kZr = true := by sorry
theorem kn_refr : kRr.all (fun q => refK q.1 q.2.1 q.2.2) = true := by sorry
theorem kn_r {A B : sS} (h : HI A) (e : EVR m_mo_begin [.ref 904] A none B) : KNF kIr kJr kFr kGr kZr B := by sorry
end
section
/-! both worlds agree behind startAgain and begin -/
def qc3 : List Int := [0, 11, 0, 11, 0, 11, 0, 11, 0, 11, 1, 1, 5, 3, 3, 8, 8, 8, 8, 8, 14, 14, 14, 14, 14, 14, 2]
def qc4 : List Int := [0, 0, 1, 1, 2, 2, 3, 3, 4, 4, 0, 1, 0, 0, 1, 0, 1, 2, 3, 4, 0, 1, 2, 3, 4, 5, 0]
def qc5 : List Int := [5, 2, 1, 2, 0, 1, 0, 0, 5]
def qc6 : List Int := [-1, -1, 0, 0, 0]
def qc7 : List Int := [1, 1, 0, 0, 0]
def qc9 : List Int := [1]
def qc11 : List Int := [1, 0]
def qc19 : List Int := [-1, 0, 0, 0, -2]
def qc21 : List Int := [4]
def qc23 : List Int := [-1]
def qc883 : List Int := [0, 1, 1, 2, 3, 4, 4]
def qc884 : List Int := [1, 2, 2, 2, 2, 2, 1]
def qc885 : List Int := [-1, 1, 1, 1, 1, 1, 0]
def qc886 : List Int := [-1, 0, 0, 0, 0, -2, -2]
def qc2 : List Int := [10793230, 0, 0, 291417229, 0, 0, 365647, 0, 0, 9872488, 0, 0, 1009905491421, 0, 0, 27267448268386, 0, 0, 5592265261380, 0, 0, 150991162057279, 0, 0, 232608281, 0, 0, 232546955, 0, 0, 212302449, 0, 0, 397973, 0, 0, 867097169668940, 0, 0, 3383428, 0, 0, 173445889199, 0, 0, 8930203729, 0, 0, 287733040, 0, 0, 49039040149, 0, 0, 1663775181034, 0, 0, 4022278, 0, 0, 7749089, 0, 0, 10408481, 0, 0, 99677, 0, 0, 456887, 0, 0, 583, 0, 0, 90302, 0, 0, 235997865, 0, 0]
def qr912 : List Int := [1, 1, 1, 1, 1, 1, 1, 1, 1, 1, 1, 1, 1, 1, 1, 1, 1, 1, 1, 1, 1, 1, 1, 1, 1, 1, 1]
def qr914 : List Int := [0, 1, 0, 1, 0, 1, 0, 1, 0, 1, 2, 2, 5, 5, 7, 4, 11, 11, 11, 11, 11, 12, 12, 12, 12, 12, 12]
def qr915 : List Int := [0, 0, 1, 1, 2, 2, 3, 3, 4, 4, 0, 1, 0, 1, 0, 0, 0, 1, 2, 3, 4, 0, 1, 2, 3, 4, 5]
def qr917 : List Int := [-1, -1, 0, 0, 0]
def qr918 : List Int := [4]
def qr920 : List Int := [-1]
def qr922 : List Int := [1, 0]
def qr928 : List Int := [1]
def qr929 : List Int := [1, 0, 0, 0, 0, 0, 0, 0, 0, 0, 0, 0, 1, 0, 0, 0, 0, 0, 0, 0, 0, 0, 0, 0, 0, 0, 0, 0, 0, 0, 0, 0, 0, 0, 0, 0, 0, 0, 0, 0, 0, 0, 0, 0, 0, 0, 0, 0, 0, 0, 0, 0, 0, 0, 0, 0, 0, 0, 0, 0]
def qr942 : List Int := [-1, 0, 0, 0, -2]
def qr946 : List Int := [0, 1, 1, 2, 3, 4, 4]
def qr947 : List Int := [1, 2, 2, 2, 2, 2, 1]
def qr949 : List Int := [-1, 0, 0, 0, 0, -2, -2]
def qr913 : List Int := [21243335, 0, 0, 679786739, 0, 0, 605677, 0, 0, 19381683, 0, 0, 3829635791026, 0, 0, 122548345312851, 0, 0, 21630008512690, 0, 0, 692160272406099, 0, 0, 542723566, 0, 0, 542622085, 0, 0, 492210354, 0, 0, 661268, 0, 0, 6611108, 0, 0, 566486927749, 0, 0, 4700534934742510, 0, 0, 549512370, 0, 0, 24739718599, 0, 0, 672507335, 0, 0, 157286933959, 0, 0, 6323711714759, 0, 0, 7841223, 0, 0, 15190664, 0, 0, 20436616, 0, 0, 165492, 0, 0, 759412, 0, 0, 688, 0, 0, 147182, 0, 0]
def qp : List Nat := [0, 1, 2, 3, 4, 5, 6, 7, 8, 9, 10, 11, 14, 12, 13, 16, 17, 18, 19, 20, 21, 22, 23, 24, 25, 26, 15]
def qi : List Nat := [0, 1, 2, 3, 4, 5, 6, 7, 8, 9, 10, 11, 13, 14, 12, 26, 15, 16, 17, 18, 19, 20, 21, 22, 23, 24, 25]
def qgw : List Int := [453701, 394691, 5258, 92275, 2282270477, 204]
def qgs : List Int := [754996, 656741, 7348, 150000, 6175499717, 239]
abbrev KCF (U : sS) : Prop := KNF kIc kJc kFc kGc kZc U
abbrev KRF (S : sS) : Prop := KNF kIr kJr kFr kGr kZr S
section
variable {U S : sS}
theorem fc3 (h : KCF U) : ∀ i, i < 27 → Xi U 3 i = qc3.getD i 0 := by sorry
theorem fc4 (h : KCF U) : ∀ i, i < 27 → Xi U 4 i = qc4.getD i 0 := by sorry
theorem fc5 (h : KCF U) : ∀ i, i < 9 → Xi U 5 i = qc5.getD i 0 := by sorry
theorem fc6 (h : KCF U) : ∀ i, i < 5 → Xi U 6 i = qc6.getD i 0 := by sorry
theorem fc7 (h : KCF U) : ∀ i, i < 5 → Xi U 7 i = qc7.getD i 0 := by sorry
theorem fc9 (h : KCF U) : ∀ i, i < 1 → Xi U 9 i = qc9.getD i 0 := by sorry
theorem fc11 (h : KCF U) : ∀ i, i < 2 → Xi U 11 i = qc11.getD i 0 := by sorry
theorem fc19 (h : KCF U) : ∀ i, i < 5 → Xi U 19 i = qc19.getD i 0 := by sorry
theorem fc21 (h : KCF U) : ∀ i, i < 1 → Xi U 21 i = qc21.getD i 0 := by sorry
theorem fc23 (h : KCF U) : ∀ i, i < 1 → Xi U 23 i = qc23.getD i 0 := by sorry
theorem fc883 (h : KCF U) : ∀ i, i < 7 → Xi U 883 i = qc883.getD i 0 := by sorry
theorem fc884 (h : KCF U) : ∀ i, i < 7 → Xi U 884 i = qc884.getD i 0 := by sorry
theorem fc885 (h : KCF U) : ∀ i, i < 7 → Xi U 885 i = qc885.getD i 0 := by sorry
theorem fc886 (h : KCF U) : ∀ i, i < 7 → Xi U 886 i = qc886.getD i 0 := by sorry
theorem fc2 (h : KCF U) : ∀ i, i < 81 → Xj U 2 i = qc2.getD i 0 := by sorry
theorem fr912 (h : KRF S) : ∀ i, i < 27 → Xi S 912 i = qr912.getD i 0 := by sorry
theorem fr914 (h : KRF S) : ∀ i, i < 27 → Xi S 914 i = qr914.getD i 0 := by sorry
theorem fr915 (h : KRF S) : ∀ i, i < 27 → Xi S 915 i = qr915.getD i 0 := by sorry
theorem fr917 (h : KRF S) : ∀ i, i < 5 → Xi S 917 i = qr917.getD i 0 := by sorry
theorem fr918 (h : KRF S) : ∀ i, i < 1 → Xi S 918 i = qr918.getD i 0 := by sorry
theorem fr920 (h : KRF S) : ∀ i, i < 1 → Xi S 920 i = qr920.getD i 0 := by sorry
theorem fr922 (h : KRF S) : ∀ i, i < 2 → Xi S 922 i = qr922.getD i 0 := by sorry
theorem fr928 (h : KRF S) : ∀ i, i < 1 → Xi S 928 i = qr928.getD i 0 := by sorry
theorem fr929 (h : KRF S) : ∀ i, i < 60 → Xi S 929 i = qr929.getD i 0 := by sorry
theorem fr942 (h : KRF S) : ∀ i, i < 5 → Xi S 942 i = qr942.getD i 0 := by sorry
theorem fr946 (h : KRF S) : ∀ i, i < 7 → Xi S 946 i = qr946.getD i 0 := by sorry
theorem fr947 (h : KRF S) : ∀ i, i < 7 → Xi S 947 i = qr947.getD i 0 := by sorry
theorem fr949 (h : KRF S) : ∀ i, i < 7 → Xi S 949 i = qr949.getD i 0 := by sorry
theorem fr913 (h : KRF S) : ∀ i, i < 81 → Xj S 913 i = qr913.getD i 0 := by sorry
theorem fc1_3 (h : KCF U) : Xi U 1 3 = 27 := by sorry
theorem fc20_12 (h : KCF U) : Xi U 20 12 = 0 := by sorry
theorem fc246_2 (h : KCF U) : Xi U 246 2 = 0 := by sorry
theorem fc246_5 (h : KCF U) : Xi U 246 5 = 0 := by sorry
theorem fc246_8 (h : KCF U) : Xi U 246 8 = 0 := by sorry
theorem fc882_3 (h : KCF U) : Xi U 882 3 = 7 := by sorry
theorem fc891_10 (h : KCF U) : Xi U 891 10 = -1 := by sorry
theorem fr904_15 (h : KRF S) : Xi S 904 15 = 27 := by sorry
theorem fr904_16 (h : KRF S) : Xi S 904 16 = 5 := by sorry
theorem fr904_18 (h : KRF S) : Xi S 904 18 = 2 := by sorry
theorem fr904_19 (h : KRF S) : Xi S 904 19 = 1 := by sorry
theorem fr904_23 (h : KRF S) : Xi S 904 23 = 2 := by sorry
theorem fr904_30 (h : KRF S) : Xi S 904 30 = 0 := by sorry
theorem fr904_32 (h : KRF S) : Xi S 904 32 = 1 := by sorry
theorem fr904_41 (h : KRF S) : Xi S 904 41 = 0 := by sorry
theorem fr904_47 (h : KRF S) : Xi S 904 47 = 0 := by sorry
theorem fr904_49 (h : KRF S) : Xi S 904 49 = 5 := by sorry
theorem fr904_51 (h : KRF S) : Xi S 904 51 = 0 := by sorry
theorem fr904_55 (h : KRF S) : Xi S 904 55 = 7 := by sorry
theorem fr904_60 (h : KRF S) : Xi S 904 60 = -1 := by sorry
theorem fr904_117 (h : KRF S) : Xi S 904 117 = 0 := by sorry
theorem fr904_125 (h : KRF S) : Xi S 904 125 = 0 := by sorry
theorem fr904_130 (h : KRF S) : Xi S 904 130 = 0 := by sorry
theorem fr904_156 (h : KRF S) : Xi S 904 156 = 0 := by sorry
theorem fr916 (h : KRF S) : ∀ i, i < 27 → Xi S 916 i = 0 := by sorry
theorem fr919 (h : KRF S) : ∀ i, i < 1 → Xi S 919 i = 0 := by sorry
theorem fr921 (h : KRF S) : ∀ i, i < 2 → Xi S 921 i = 0 := by sorry
theorem fr924 (h : KRF S) : ∀ i, i < 2 → Xi S 924 i = 0 := by sorry
theorem fr925 (h : KRF S) : ∀ i, i < 24 → Xi S 925 i = 0 := by sorry
theorem fr926 (h : KRF S) : ∀ i, i < 120 → Xi S 926 i = 0 := by sorry
theorem fr930 (h : KRF S) : ∀ i, i < 12 → Xi S 930 i = 0 := by sorry
theorem fr933 (h : KRF S) : ∀ i, i < 60 → Xi S 933 i = 0 := by sorry
theorem fr940 (h : KRF S) : ∀ i, i < 3456 → Xi S 940 i = 0 := by sorry
theorem fc10 (h : KCF U) : ∀ i, i < 2 → Xi U 10 i = 0 := by sorry
theorem fc22 (h : KCF U) : ∀ i, i < 1 → Xi U 22 i = 0 := by sorry
theorem kz_a : ∀ r, r < 40 → (25 + r, 24) ∈ kZc := by sorry
theorem kz_p : ∀ r, r < 40 → (66 + r, 12) ∈ kZc := by sorry
theorem kz_r : ∀ r, r < 6 → (189 + r, 24) ∈ kZc := by sorry
theorem ki_w : ∀ r, r < 24 → (196 + r, [-1, -1, -1, -1, -1, -1]) ∈ kIc := by sorry
theorem fcA (h : KCF U) {r a : Nat} (hr : r < 40) (ha : a < 24) : Xi U (25 + r) a = 0 := by sorry
theorem fcP (h : KCF U) {r a : Nat} (hr : r < 40) (ha : a < 12) : Xi U (66 + r) a = 0 := by sorry
theorem fcR (h : KCF U) {r a : Nat} (hr : r < 6) (ha : a < 24) : Xi U (189 + r) a = 0 := by sorry
theorem fcW (h : KCF U) {r d : Nat} (hr : r < 24) (hd : d < 6) : Xi U (196 + r) d = -1 := by sorry
theorem gw_c : ∀ c, c < 6 → (887, 8 * c, qgw.getD c 0) ∈ kGc := by sorry
theorem gs_r : ∀ c, c < 6 → (948, 8 * c, qgs.getD c 0) ∈ kGr := by sorry
theorem gz_r : ∀ c, c < 6 → 1 ≤ c → (948, 8 * c + 1, 0) ∈ kGr := by sorry
theorem g6_r : ((948, 48, 0) : Nat × Nat × Int) ∈ kGr := by sorry
/-- one entry of both vocabularies, on the lists -/
abbrev WEl (i k : Nat) : Prop := sg7 (qr914.getD k 0) = qc3.getD i 0 ∧ qr915.getD k 0 = qc4.getD i 0 ∧ (1 ≤ qr912.getD k 0 ∧ qr912.getD k 0 ≤ 3) ∧ (∀ j : Nat, j < 3 → (0 ≤ qc2.getD (3 * i + j) 0 ∧ qc2.getD (3 * i + j) 0 < 27 ^ 13) ∧ ((j : Int) < qr912.getD k 0 → 0 < qc2.getD (3 * i + j) 0) ∧ (qr912.getD k 0 ≤ (j : Int) → qc2.getD (3 * i + j) 0 = 0)) ∧ ∀ j : Nat, j < 3 → (j : Int) < qr912.getD k 0 → qr913.getD (3 * k + j) 0 = cv (qc2.getD (3 * i + j) 0)
theorem wel_c : ∀ i, i < 27 → qp.getD i 0 < 27 ∧ WEl i (qp.getD i 0) := by sorry
theorem wel_r : ∀ k, k < 27 → qi.getD k 0 < 27 ∧ WEl (qi.getD k 0) k := by sorry
theorem lw_l : ∀ t, t < 81 → qc2.getD t 0 < 150094635296999121 := by sorry
theorem we_l (h : KCF U) (g : KRF S) {i k : Nat} (hi : i < 27) (hk : k < 27) (w : WEl i k) : WE U S i k := by sorry
theorem unw_l : ∀ i, i < 27 → ∀ j, j < 27 → (∀ t, t < 3 → qc2.getD (3 * i + t) 0 = qc2.getD (3 * j + t) 0) → i = j := by sorry
theorem usw_l : ∀ i, i < 27 → ∀ j, j < 27 → qc3.getD i 0 = qc3.getD j 0 → qc4.getD i 0 = qc4.getD j 0 → i = j := by sorry
theorem cen_l : ∀ i, i < 27 → (0 ≤ qc3.getD i 0 ∧ qc3.getD i 0 ≤ 14) ∧ 0 ≤ qc4.getD i 0 ∧ qc4.getD i 0 ≤ 63 := by sorry
theorem whc_l : ∀ i, i < 27 → qc4.getD i 0 < (if qc3.getD i 0 = 11 then 5 else if qc3.getD i 0 = 12 then 2 else if qc3.getD i 0 = 13 then 0 else if qc3.getD i 0 = 14 then 6 else if qc3.getD i 0 = 9 ∨ qc3.getD i 0 = 10 then 0 else qc5.getD (qc3.getD i 0).toNat 0) := by sorry
theorem s8_l : ∀ i, i < 27 → qc3.getD i 0 = 11 ∨ qc3.getD i 0 = 12 ∨ qc3.getD i 0 = 13 ∨ qc3.getD i 0 = 14 ∨ qc3.getD i 0 ≤ 8 := by sorry
theorem gb_l : ∀ k : Nat, k < 5 → ∀ p : Nat, p < 12 → (gb (qc7.getD k 0) (p : Int) = true ↔ qr929.getD (12 * k + p) 0 ≠ 0) := by sorry
theorem hs_l : ∀ k, k < 5 → ∀ p, p < 12 → qr929.getD (12 * k + p) 0 ≠ 0 → p < 1 := by sorry
theorem kd_l : ∀ k, k < 5 → qc6.getD k 0 = qr917.getD k 0 ∧ -1 ≤ qr917.getD k 0 ∧ qr917.getD k 0 < (k : Int) := by sorry
theorem k7_l : ∀ k, k < 5 → 0 ≤ qc7.getD k 0 ∧ qc7.getD k 0 < 4096 := by sorry
theorem ak_l : ∀ k, k < 5 → qc19.getD k 0 = qr942.getD k 0 ∧ -2 ≤ qc19.getD k 0 ∧ qc19.getD k 0 < 5 := by sorry
theorem cm_l : ∀ c, c < 7 → (qc883.getD c 0 = qr946.getD c 0 ∧ 0 ≤ qc883.getD c 0 ∧ qc883.getD c 0 < 5) ∧ (qc884.getD c 0 = qr947.getD c 0 ∧ 1 ≤ qc884.getD c 0 ∧ qc884.getD c 0 ≤ 8) ∧ (qc886.getD c 0 = qr949.getD c 0 ∧ -2 ≤ qc886.getD c 0 ∧ qc886.getD c 0 < 5) ∧ (qc885.getD c 0 = -1 ∨ (0 ≤ qc885.getD c 0 ∧ qc885.getD c 0 < qc884.getD c 0)) ∧ ((qc885.getD c 0 = -1 ↔ qc886.getD c 0 = -1) ∧ (qc19.getD (qc883.getD c 0).toNat 0 = -1 ↔ qc886.getD c 0 = -1) ∧ (qc19.getD (qc883.getD c 0).toNat 0 = -2 ↔ qc886.getD c 0 = -2) ∧ (0 ≤ qc19.getD (qc883.getD c 0).toNat 0 → qc886.getD c 0 = qc19.getD (qc883.getD c 0).toNat 0)) := by sorry
theorem cm_m : ∀ c, c < 7 → (c = 0 → qc884.getD c 0 = 1 ∧ qc885.getD c 0 = -1) ∧ (c = 6 → qc884.getD c 0 = 1 ∧ qc885.getD c 0 = 0) ∧ (1 ≤ c → c < 6 → qc884.getD c 0 = 2 ∧ qc885.getD c 0 = 1) := by sorry
theorem cw_l : ∀ c, c < 6 → (0 < qgw.getD c 0 ∧ qgw.getD c 0 < 150094635296999121) ∧ qgs.getD c 0 = cv (qgw.getD c 0) := by sorry
theorem isk_self {x : Int} (h : 0 ≤ x) : isK U x x = 1 := by sorry
theorem fcC (h : KCF U) : Xi U 5 0 = 5 ∧ Xi U 5 1 = 2 ∧ Xi U 5 2 = 1 ∧ Xi U 5 3 = 2 ∧ Xi U 5 4 = 0 ∧ Xi U 5 5 = 1 ∧ Xi U 5 6 = 0 ∧ Xi U 5 7 = 0 ∧ Xi U 5 8 = 5 := by sorry
theorem rla_0 (h : KCF U) (g : KRF S) (hS : HI S) (t3 : TX3 U) : RLA U S := by sorry
end
end
section
/-! both begin to read, and read alike -/
theorem kc_876 : (∀ q ∈ kIc, q.1 ≠ 876) ∧ (∀ q ∈ kJc, q.1 ≠ 876) ∧ (∀ q ∈ kFc, q.1 ≠ 876) ∧ (∀ q ∈ kGc, q.1 ≠ 876) ∧ ∀ q ∈ kZc, q.1 ≠ 876 := by sorry
theorem kr_904 : (∀ q ∈ kIr, q.1 ≠ 904) ∧ (∀ q ∈ kFr, q.1 = 904 → q.2.1 ≠ 8 ∧ q.2.1 ≠ 61 ∧ q.2.1 ≠ 62) ∧ ∀ q ∈ kZr, q.1 ≠ 904 := by sorry
theorem kcf_k {B U : sS} (h : KCF B) (e : ∀ k j : Nat, k ≠ 876 → Xi U k j = Xi B k j ∧ Xj U k j = Xj B k j) : KCF U := by sorry
theorem krf_k {B S : sS} (h : KRF B) (e : ∀ k j : Nat, (k = 904 → j ≠ 8 ∧ j ≠ 61 ∧ j ≠ 62) → Xi S k j = Xi B k j) (e2 : ∀ k j : Nat, Xj S k j = Xj B k j) : KRF S := by sorry
theorem open_kc {U0 : sS} {ts : Nat} (op : OPN U0 ts) : KCF U0 := by sorry
theorem rs0_x {B : sS} {k j : Nat} (h : k = 904 → j ≠ 8 ∧ j ≠ 61 ∧ j ≠ 62) : Xi (rs0 B) k j = Xi B k j := by sorry
theorem jok_0 {Q U0 B : sS} {ts n : Nat} {e : Int} (ht : tp ts) (hU : HI U0) (op : OPN U0 ts) (u5 : Xi U0 876 5 = e) (u8 : Xi U0 876 8 = 0) (s20 : U0.2.2 20 1 = some ts) (hB : HI B) (bg : BGS Q B n) (eQ : Xi Q 904 1 = e) (yt : ∀ j : Nat, (j : Int) < e → Xi U0 ts j = Xi Q 905 j) (ky : KEYR (Xj U0 880) (Xj Q 911)) : JOK ts n e U0 (rs0 B) (sk7 (Xi U0 ts) e 0) 0 := by sorry
/-- the story's bytes stay -/
theorem cst_f {ts : Nat} {U U1 : sS} {a a1 : Int} (c : CST ts U a U1 a1) : KEP [(880, 881), (902, 904)] [(876, 5)] U U1 := by sorry
theorem pch_f {ts : Nat} {U0 : sS} {a0 : Int} : ∀ (n : Nat) {U : sS} {a : Int}, PCH ts U0 a0 n U a → KEP [(880, 881), (902, 904)] [(876, 5)] U0 U := by sorry
/-- what both have read: the same fault, or both worlds agree -/
def RDD (U R : sS) (N : Int) : Prop := (SMF U R ∨ (Xi U 876 8 = 0 ∧ Xi R 904 62 = 0 ∧ Xi R 904 61 = N ∧ RLA U R))
theorem rd_two {S Q U R : sS} {ts : Nat} {N : Int} (ht : tp ts) (e1 : Xi S 0 10 = Xi Q 904 1) (ky : KEYR (Xj S 880) (Xj Q 911)) (yt : ∀ j : Nat, (j : Int) < Xi S 0 10 → Xi S ts j = Xi Q 905 j) (kS : (∀ j : Nat, Xj U 880 j = Xj S 880 j) ∧ (∀ j : Nat, Xi U 902 j = Xi S 902 j) ∧ ∀ j : Nat, Xi U 903 j = Xi S 903 j) (r : RTX S ts N U) (s : SRY Q R) : (N = 0 → Xi U 876 8 = 0 ∧ Xi U 876 5 = Xi S 0 10 ∧ Xi R 904 62 = 2 ∧ Xi R 904 63 = Xi S 0 10) ∧ (N ≠ 0 → 0 < N ∧ RDD U R N) := by sorry
/-- the read of both: the same answer; behind a fault both are fresh, with the same fault; else both worlds agree ahead of what ends a read -/
theorem read_same {S Q S1 Q1 : sS} {ts : Nat} {z w : Int} (ht : tp ts) (e1 : Xi S 0 10 = Xi Q 904 1) (ky : KEYR (Xj S 880) (Xj Q 911)) (yt : ∀ j : Nat, (j : Int) < Xi S 0 10 → Xi S ts j = Xi Q 905 j) (FS : FR md_rs_read__t S S1) (r : RFN S ts S1 z) (m : MRN Q Q1 w) : z = w ∧ ((KCF S1 ∧ KRF Q1 ∧ Xi S1 0 11 = Xi Q1 904 62 ∧ Xi S1 0 11 ≠ 0) ∨ (∃ U R Y : sS, RLA U R ∧ (Xi U 876 8 = 0 ∧ Xi R 904 62 = 0) ∧ EVR m_wo_placePlayer [.ref 20] (uI U 0 11 (Int32.ofInt (Xi U 876 8))) none Y ∧ EVR m_bo_putInOrder [.ref 246] Y none S1 ∧ FR md_bo_putInOrder__b Y S1 ∧ FR md_wo_placePlayer__b (uI U 0 11 (Int32.ofInt (Xi U 876 8))) Y ∧ PLZ Q Q1 w ∧ SRY Q R)) := by sorry
end
section
/-! feed: the bytes of both -/
def l2iF (x : Int) : Int := (Int64.ofInt x).toInt32.toInt
theorem l_l2iF {lay : Nat → Nat × Nat} {d : Nat} {q : mT} {pc : Nat} {L : List (Nat × Value)} {st : List Value} {S : sS} {Q : pst} {x : Int} (hc : lk q.2.2.2.2.2 pc = some .l2i) (h : Rl lay d q (pc + 1) L (iv (l2iF x) :: st) S Q) : Rl lay d q pc L (jw x :: st) S Q := by sorry
def by8 (x : Int) : Int := (l2iF x).bmod 256
theorem by8_i {x c : Int} (h : (-128 ≤ c ∧ c ≤ 127) ∧ (l2iF x % 256 < 128 → c = l2iF x % 256) ∧ (128 ≤ l2iF x % 256 → c = l2iF x % 256 - 256)) : c = by8 x := by sorry
/-- the bytes fed so far -/
def FDI (f : Int → Int → Int) (S T : sS) (t : Nat) (c0 w n m : Int) : Prop := (∀ k : Nat, (k : Int) < m → Xi T t (c0.toNat + k) = by8 (f w (8 * (n - 1 - k)))) ∧ ∀ j : Nat, (j : Int) < c0 → Xi T t j = Xi S t j
theorem fdi_0 {f : Int → Int → Int} {S : sS} {t : Nat} {c0 w n m : Int} (h : m ≤ 0) : FDI f S S t c0 w n m := by sorry
theorem fdi_s {f : Int → Int → Int} {S T U V : sS} {t e i : Nat} {c0 w n m x c y v m1 : Int} (h : FDI f S T t c0 w n m) (m0 : 0 ≤ m) (h0 : 0 ≤ c0) (hx : x = c0 + m) (e1 : U = uI T t x.toNat (Int32.ofInt c)) (hc : -128 ≤ c ∧ c ≤ 127) (e2 : V = uI U e i (Int32.ofInt y)) (ne : e ≠ t) (b : c = by8 (f w (8 * v))) (hv : v = n - 1 - m) (e3 : m1 = m + 1) : FDI f S V t c0 w n m1 := by sorry
def FDZ (f : Int → Int → Int) (S S1 : sS) (t : Nat) (c0 w n : Int) : Prop := (1 ≤ n → n ≤ 8 → c0 + n ≤ 5000 → ∀ k : Nat, (k : Int) < n → Xi S1 t (c0.toNat + k) = by8 (f w (8 * (n - 1 - k)))) ∧ ∀ j : Nat, (j : Int) < c0 → Xi S1 t j = Xi S t j
theorem fdz_n {f : Int → Int → Int} {S : sS} {t : Nat} {c0 w n : Int} (h : n < 1 ∨ 8 < n ∨ 5000 < c0 + n) : FDZ f S S t c0 w n := by sorry
theorem fdz_i {f : Int → Int → Int} {S T : sS} {t : Nat} {c0 w n m : Int} (h : FDI f S T t c0 w n m) (e : m = n) : FDZ f S T t c0 w n := by sorry
def md_rs_feed__t : List rec := [(0, 1, 10, 11), (902, 904, 0, 100000)]
abbrev Q_rs_feed__t (S : sS) (ts : Nat) (w : Int) (n : Int) : pst := fun r S1 => HI S1 ∧ FR md_rs_feed__t S S1 ∧ (∃ z : Int, r = some (iv z) ∧ (-1 ≤ z ∧ z ≤ 5000) ∧ (1 ≤ n → n ≤ 8 → Xi S 0 10 + n ≤ 5000 → z = Xi S 0 10 + n ∧ Xi S1 0 10 = Xi S 0 10 + n) ∧ (n < 1 ∨ 8 < n ∨ 5000 < Xi S 0 10 + n → z = -1 ∧ Xi S1 0 10 = Xi S 0 10) ∧ (∀ t j : Nat, 0 < t → t ≠ ts → Xi S1 t j = Xi S t j) ∧ (FDZ lushrF S S1 ts (Xi S 0 10) w n))
set_option maxRecDepth 100000 in
theorem t_rs_feed__t {S : sS} (hH : HI S) (ts : Nat) (w : Int) (n : Int) (hn : -2147483648 ≤ n ∧ n ≤ 2147483647) (h8 : S.2.2 0 8 = some ts) (htp : tp ts) (d : Nat) : Mt lay0 (d + 1) m_rs_feed [.ref 0, jw w, iv n] S (Q_rs_feed__t S ts w n) := by sorry
def md_mo_feed__t : List rec := [(904, 905, 1, 2), (905, 906, 0, 100000)]
abbrev Q_mo_feed__t (S : sS) (w : Int) (n : Int) : pst := fun r S1 => HI S1 ∧ FR md_mo_feed__t S S1 ∧ (∃ z : Int, r = some (iv z) ∧ (-1 ≤ z ∧ z ≤ 5000) ∧ (1 ≤ n → n ≤ 8 → Xi S 904 1 + n ≤ 5000 → z = Xi S 904 1 + n ∧ Xi S1 904 1 = Xi S 904 1 + n) ∧ (n < 1 ∨ 8 < n ∨ 5000 < Xi S 904 1 + n → z = -1 ∧ Xi S1 904 1 = Xi S 904 1) ∧ (FDZ lshrF S S1 905 (Xi S 904 1) w n))
set_option maxRecDepth 100000 in
theorem t_mo_feed__t {S : sS} (hH : HI S) (w : Int) (n : Int) (hn : -2147483648 ≤ n ∧ n ≤ 2147483647) (d : Nat) : Mt lay0 (d + 1) m_mo_feed [.ref 904, jw w, iv n] S (Q_mo_feed__t S w n) := by sorry
abbrev Q_rs_fault__t (S : sS) : pst := fun r S1 => S = S1 ∧ (∃ z : Int, r = some (iv z) ∧ (0 ≤ z ∧ z ≤ 9) ∧ (z = Xi S 0 11))
set_option maxRecDepth 100000 in
theorem t_rs_fault__t {S : sS} (hH : HI S) (d : Nat) : Mt lay0 (d + 1) m_rs_fault [.ref 0] S (Q_rs_fault__t S) := by sorry
abbrev Q_mo_fault__t (S : sS) : pst := fun r S1 => S = S1 ∧ (∃ z : Int, r = some (iv z) ∧ (0 ≤ z ∧ z ≤ 9) ∧ (z = Xi S 904 62))
set_option maxRecDepth 100000 in
theorem t_mo_fault__t {S : sS} (hH : HI S) (d : Nat) : Mt lay0 (d + 1) m_mo_fault [.ref 904] S (Q_mo_fault__t S) := by sorry
/-! feed leaves both the same bytes -/
theorem by8_j (Z : Int64) : by8 Z.toInt = ((Z.toBitVec.setWidth 8).toInt) := by sorry
theorem sh8 (x : BitVec 64) (s : Nat) (h : s ≤ 56) : (x >>> s).setWidth 8 = (x.sshiftRight s).setWidth 8 := by sorry
theorem sh_same {w i : Int} (h0 : 0 ≤ i) (h7 : i ≤ 7) : by8 (lushrF w (8 * i)) = by8 (lshrF w (8 * i)) := by sorry
theorem feed_same {S S1 R R1 : sS} {ts : Nat} {c0 w n : Int} (h0 : 0 ≤ c0) (b : ∀ j : Nat, (j : Int) < c0 → Xi S ts j = Xi R 905 j) (f : FDZ lushrF S S1 ts c0 w n) (g : FDZ lshrF R R1 905 c0 w n) : (∀ j : Nat, (j : Int) < c0 → Xi S1 ts j = Xi R1 905 j) ∧ (1 ≤ n → n ≤ 8 → c0 + n ≤ 5000 → ∀ j : Nat, (j : Int) < c0 + n → Xi S1 ts j = Xi R1 905 j) := by sorry
/-! both read alike; what both share between calls -/
theorem read_eq {S Q S1 Q1 : sS} {ts : Nat} {z w : Int} (ht : tp ts) (e1 : Xi S 0 10 = Xi Q 904 1) (ky : KEYR (Xj S 880) (Xj Q 911)) (yt : ∀ j : Nat, (j : Int) < Xi S 0 10 → Xi S ts j = Xi Q 905 j) (FS : FR md_rs_read__t S S1) (r : RFN S ts S1 z) (m : MRN Q Q1 w) : z = w ∧ Xi S1 0 11 = Xi Q1 904 62 := by sorry
/-- key words, the fault told last, the bytes fed -/
def EQB (S : sS) : Prop := KEYR (Xj S 880) (Xj S 911) ∧ Xi S 0 11 = Xi S 904 62 ∧ ∀ ts : Nat, S.2.2 0 8 = some ts → ∀ j : Nat, (j : Int) < Xi S 904 1 → Xi S ts j = Xi S 905 j
theorem eqb_fr {l : List rec} {S T : sS} (h : FR l S T) (e : kepC l [(880, 881), (902, 904), (905, 906), (911, 912)] [(0, 8), (0, 11), (904, 62)] = true) (tpS : ∀ ts : Nat, S.2.2 0 8 = some ts → tp ts) (q : Xi T 904 1 = Xi S 904 1 ∨ Xi T 904 1 ≤ 0) (E : EQB S) : EQB T := by sorry
theorem eqb_feed {S T V : sS} {ts : Nat} {w n : Int} (h8 : S.2.2 0 8 = some ts) (ht : tp ts) (e : Xi S 0 10 = Xi S 904 1) (h0 : 0 ≤ Xi S 0 10) (E : EQB S) (fS : FR md_rs_feed__t S T) (z : FDZ lushrF S T ts (Xi S 0 10) w n) (fT : FR md_mo_feed__t T V) (y : FDZ lshrF T V 905 (Xi T 904 1) w n) (v : Xi V 904 1 = Xi T 904 1 ∨ (1 ≤ n ∧ n ≤ 8 ∧ Xi T 904 1 + n ≤ 5000 ∧ Xi V 904 1 = Xi T 904 1 + n)) : EQB V := by sorry
theorem eqb_read {S T V : sS} {ts : Nat} {z w : Int} (h8 : S.2.2 0 8 = some ts) (ht : tp ts) (e : Xi S 0 10 = Xi S 904 1) (E : EQB S) (fS : FR md_rs_read__t S T) (r : RFN S ts T z) (fT : FR md_mo_read__t T V) (m : MRN T V w) (v : Xi V 904 1 = 0) : z = w ∧ EQB V := by sorry
/-- both rows of one call -/
def RXC (S : sS) (ts : Nat) (S1 : sS) (r : Option Value) : Prop := FR md_rs_read__t S S1 ∧ ∀ z : Int, rg z → r = some (iv z) → RFN S ts S1 z
def RXM (S S1 : sS) (r : Option Value) : Prop := FR md_mo_read__t S S1 ∧ ∀ z : Int, rg z → r = some (iv z) → MRN S S1 z
theorem t_fd_c {S : sS} (hH : HI S) (ts : Nat) (w n : Int) (hn : -2147483648 ≤ n ∧ n ≤ 2147483647) (h8 : S.2.2 0 8 = some ts) (htp : tp ts) (d : Nat) : Mt lay0 (d + 1) m_rs_feed [.ref 0, jw w, iv n] S (fun r S1 => Q_rs_feed__2 S ts w n r S1 ∧ (FR md_rs_feed__t S S1 ∧ FDZ lushrF S S1 ts (Xi S 0 10) w n)) := by sorry
theorem t_fd_m {S : sS} (hH : HI S) (w n : Int) (hn : -2147483648 ≤ n ∧ n ≤ 2147483647) (d : Nat) : Mt lay0 (d + 1) m_mo_feed [.ref 904, jw w, iv n] S (fun r S1 => Q_mo_feed S w n r S1 ∧ (FR md_mo_feed__t S S1 ∧ FDZ lshrF S S1 905 (Xi S 904 1) w n)) := by sorry
/-! what both share: a fresh state has it -/
theorem inv_tp {S : sS} (h : INV S) : ∀ ts : Nat, S.2.2 0 8 = some ts → tp ts := by sorry
noncomputable def jTo (k j : Nat) : Option Int := match lookT sT2 k j with
  | some (.inr (.inl (some z))) => some z
  | _ => none
theorem gs_je {S : sS} (h : gS sT2 S) {k j : Nat} {b : Int} (e : jTo k j = some b) : Xj S k j = b := by sorry
noncomputable def kyC (i : Nat) : Bool := match jTo 880 i, jTo 911 i with
  | some a, some b => decide (b = cv a) && (decide (0 ≤ a) && decide (a < 27 ^ 13))
  | _, _ => false
theorem kyC_ok : ∀ i : Nat, i < 55 → kyC i = true := by sorry
theorem fr_EQB {S : sS} (h : gS sT2 S) : EQB S := by sorry
end
end
section
section
/-! QUESTIONS of the reference as functions: chains of kinds, first values, numbers -/
def chN (S : sS) (c : Nat) (m q : Int) : Nat → Int → Int
  | 0, _ => -1
  | f + 1, k => if k < 0 then -1 else if Xi S c (m * k + q).toNat ≠ 0 then k else chN S c m q f (Xi S 917 k.toNat)
theorem chN_st {S : sS} {c : Nat} {m q : Int} (hB : ABV S) : ∀ (f g : Nat) (k : Int), k ≤ 15 → k + 2 ≤ f → k + 2 ≤ g → chN S c m q f k = chN S c m q g k := by sorry
/-- the first kind of a chain at which something is told; -1 -/
def chR (S : sS) (c : Nat) (m q k : Int) : Int := chN S c m q 17 k
theorem chR_n {S : sS} {c : Nat} {m q k : Int} (h : k < 0) : chR S c m q k = -1 := by sorry
theorem chR_e {S : sS} {c : Nat} {m q k : Int} (h : 0 ≤ k) (e : Xi S c (m * k + q).toNat ≠ 0) : chR S c m q k = k := by sorry
theorem chR_s {S : sS} {c : Nat} {m q k : Int} (hB : ABV S) (h : 0 ≤ k) (h2 : k ≤ 15) (e : Xi S c (m * k + q).toNat = 0) : chR S c m q k = chR S c m q (Xi S 917 k.toNat) := by sorry
/-- the first value of a type; -1 -/
def fvRn (S : sS) (t : Int) : Nat → Int → Int
  | 0, _ => -1
  | n + 1, i => if Xi S 927 i.toNat = t then i else fvRn S t n (i + 1)
def fvR (S : sS) (t : Int) : Int := fvRn S t (Xi S 904 30).toNat 0
theorem fvRn_f {S : sS} {t a i : Int} (hi : i < a) (h : Xi S 927 i.toNat = t) : fvRn S t (a - i).toNat i = i := by sorry
theorem fvRn_s {S : sS} {t a i : Int} (hi : i < a) (h : Xi S 927 i.toNat ≠ t) : fvRn S t (a - i).toNat i = fvRn S t (a - (i + 1)).toNat (i + 1) := by sorry
theorem fvRn_e {S : sS} {t a i : Int} (hi : a ≤ i) : fvRn S t (a - i).toNat i = -1 := by sorry
theorem fvR_0 {S : sS} {t : Int} : fvR S t = fvRn S t (Xi S 904 30 - 0).toNat 0 := by sorry
/-- what the reference says of a property of an object, and how long -/
def nuR (S : sS) (o p : Int) : Int :=
  if Xi S 930 (12 * o + p).toNat ≠ 0 then Xi S 931 (12 * o + p).toNat
  else if chR S 933 12 p (Xi S 918 o.toNat) = -1 then (if 1 < Xi S 928 p.toNat then fvR S (Xi S 928 p.toNat) else 0)
  else Xi S 934 (12 * chR S 933 12 p (Xi S 918 o.toNat) + p).toNat
def nlR (S : sS) (o p : Int) : Int :=
  if Xi S 930 (12 * o + p).toNat ≠ 0 then Xi S 932 (12 * o + p).toNat
  else if chR S 933 12 p (Xi S 918 o.toNat) = -1 then 0
  else Xi S 935 (12 * chR S 933 12 p (Xi S 918 o.toNat) + p).toNat
theorem nu_1 {S : sS} {o p : Int} (h : Xi S 930 (12 * o + p).toNat ≠ 0) : nuR S o p = Xi S 931 (12 * o + p).toNat ∧ nlR S o p = Xi S 932 (12 * o + p).toNat := by sorry
theorem nu_2 {S : sS} {o p k : Int} (h : Xi S 930 (12 * o + p).toNat = 0) (c : chR S 933 12 p (Xi S 918 o.toNat) = k) (n : k ≠ -1) : nuR S o p = Xi S 934 (12 * k + p).toNat ∧ nlR S o p = Xi S 935 (12 * k + p).toNat := by sorry
theorem nu_3 {S : sS} {o p : Int} (h : Xi S 930 (12 * o + p).toNat = 0) (c : chR S 933 12 p (Xi S 918 o.toNat) = -1) (n : 1 < Xi S 928 p.toNat) : nuR S o p = fvR S (Xi S 928 p.toNat) ∧ nlR S o p = 0 := by sorry
theorem nu_4 {S : sS} {o p : Int} (h : Xi S 930 (12 * o + p).toNat = 0) (c : chR S 933 12 p (Xi S 918 o.toNat) = -1) (n : Xi S 928 p.toNat ≤ 1) : nuR S o p = 0 ∧ nlR S o p = 0 := by sorry
/-- ways -/
def fwN (S : sS) (c : Nat) (room d : Int) : Nat → Int → Int
  | 0, _ => -1
  | n + 1, i => if Xi S c i.toNat = room ∧ Xi S 944 i.toNat = d then i else fwN S c room d n (i + 1)
theorem fwN_f {S : sS} {c : Nat} {room d a i : Int} (hi : i < a) (h : Xi S c i.toNat = room) (h2 : Xi S 944 i.toNat = d) : fwN S c room d (a - i).toNat i = i := by sorry
theorem fwN_s {S : sS} {c : Nat} {room d a i : Int} (hi : i < a) (h : ¬ (Xi S c i.toNat = room ∧ Xi S 944 i.toNat = d)) : fwN S c room d (a - i).toNat i = fwN S c room d (a - (i + 1)).toNat (i + 1) := by sorry
theorem fwN_e {S : sS} {c : Nat} {room d a i : Int} (hi : a ≤ i) : fwN S c room d (a - i).toNat i = -1 := by sorry
def fwR (S : sS) (c : Nat) (room d : Int) : Int := fwN S c room d (Xi S 904 51 - 0).toNat 0
def ldR (S : sS) (room d : Int) : Int := if fwR S 943 room d ≠ -1 then Xi S 945 (fwR S 943 room d).toNat else if fwR S 945 room (ixorF d 1) ≠ -1 then Xi S 943 (fwR S 945 room (ixorF d 1)).toNat else -1
theorem ld_1 {S : sS} {room d i : Int} (h : fwR S 943 room d = i) (n : i ≠ -1) : ldR S room d = Xi S 945 i.toNat := by sorry
theorem ld_2 {S : sS} {room d i : Int} (h : fwR S 943 room d = -1) (g : fwR S 945 room (ixorF d 1) = i) (n : i ≠ -1) : ldR S room d = Xi S 943 i.toNat := by sorry
theorem ld_3 {S : sS} {room d : Int} (h : fwR S 943 room d = -1) (g : fwR S 945 room (ixorF d 1) = -1) : ldR S room d = -1 := by sorry
/-- how many properties, how many adjectives a kind has -/
def npN (S : sS) (k : Int) : Nat → Int
  | 0 => 0
  | n + 1 => npN S k n + (if hsR S k n = 0 then 0 else 1)
def naN (S : sS) (k : Int) : Nat → Int
  | 0 => 0
  | n + 1 => naN S k n + (if blR S k (Xi S 921 n) = 0 then 0 else 1)
theorem npN_s {S : sS} {k i c z x : Int} (h : c = npN S k i.toNat) (i0 : 0 ≤ i) (e : z = hsR S k i) (hz : (z = 0 → x = 0) ∧ (z ≠ 0 → x = 1)) : c + x = npN S k (i + 1).toNat := by sorry
theorem naN_s {S : sS} {k i c z x : Int} (h : c = naN S k i.toNat) (i0 : 0 ≤ i) (e : z = blR S k (Xi S 921 i.toNat)) (hz : (z = 0 → x = 0) ∧ (z ≠ 0 → x = 1)) : c + x = naN S k (i + 1).toNat := by sorry
abbrev Q_rs_isObject__q (S : sS) (i : Int) : pst := fun r S1 => S = S1 ∧ (∃ z : Int, r = some (iv z) ∧ (0 ≤ z ∧ z ≤ 1) ∧ (z = 1 → 0 ≤ i ∧ i ≤ 23) ∧ ((z = 1 → 0 ≤ i ∧ i < Xi S 5 2) ∧ (z = 0 → i < 0 ∨ Xi S 5 2 ≤ i)))
set_option maxRecDepth 100000 in
theorem t_rs_isObject__q {S : sS} (hH : HI S) (i : Int) (hi : -2147483648 ≤ i ∧ i ≤ 2147483647) (d : Nat) : Mt lay0 (d + 2) m_rs_isObject [.ref 0, iv i] S (Q_rs_isObject__q S i) := by sorry
abbrev Q_rs_told__q (S : sS) (w : Int) : pst := fun r S1 => S = S1 ∧ (∃ z : Int, r = some (iv z) ∧ (-1 ≤ z ∧ z ≤ 64) ∧ ((w = 9 → z = Xi S 246 2) ∧ (w = 10 → z = Xi S 882 3) ∧ (0 ≤ w → w ≤ 8 → z = Xi S 5 w.toNat) ∧ (w < 0 ∨ 10 < w → z = -1)))
set_option maxRecDepth 100000 in
theorem t_rs_told__q {S : sS} (hH : HI S) (w : Int) (hw : -2147483648 ≤ w ∧ w ≤ 2147483647) (d : Nat) : Mt lay0 (d + 2) m_rs_told [.ref 0, iv w] S (Q_rs_told__q S w) := by sorry
abbrev Q_rs_object__q (S : sS) (i : Int) (w : Int) : pst := fun r S1 => S = S1 ∧ (∃ z : Int, r = some (iv z) ∧ (-1 ≤ z ∧ z ≤ 23) ∧ ((i < 0 ∨ Xi S 5 2 ≤ i → z = -1) ∧ (0 ≤ i → i < Xi S 5 2 → (w = 0 → z = Xi S 21 i.toNat) ∧ (w = 1 → z = Xi S 22 i.toNat) ∧ (w = 2 → z = Xi S 23 i.toNat) ∧ (w < 0 ∨ 2 < w → z = -1))))
set_option maxRecDepth 100000 in
theorem t_rs_object__q {S : sS} (hH : HI S) (i : Int) (w : Int) (hi : -2147483648 ≤ i ∧ i ≤ 2147483647) (hw : -2147483648 ≤ w ∧ w ≤ 2147483647) (d : Nat) : Mt lay0 (d + 3) m_rs_object [.ref 0, iv i, iv w] S (Q_rs_object__q S i w) := by sorry
abbrev Q_rs_leads__q (S : sS) (room : Int) (dir : Int) : pst := fun r S1 => S = S1 ∧ (∃ z : Int, r = some (iv z) ∧ (-1 ≤ z ∧ z ≤ 23) ∧ (((room < 0 ∨ Xi S 5 2 ≤ room ∨ dir < 0 ∨ 6 ≤ dir) → z = -1) ∧ (0 ≤ room → room < Xi S 5 2 → 0 ≤ dir → dir < 6 → z = rbh S room dir)))
set_option maxRecDepth 100000 in
theorem t_rs_leads__q {S : sS} (hH : HI S) (room : Int) (dir : Int) (hroom : -2147483648 ≤ room ∧ room ≤ 2147483647) (hdir : -2147483648 ≤ dir ∧ dir ≤ 2147483647) (d : Nat) : Mt lay0 (d + 3) m_rs_leads [.ref 0, iv room, iv dir] S (Q_rs_leads__q S room dir) := by sorry
abbrev Q_rs_related__q (S : sS) (rl : Int) (a : Int) (b : Int) : pst := fun r S1 => S = S1 ∧ (∃ z : Int, r = some (iv z) ∧ (0 ≤ z ∧ z ≤ 1) ∧ (((rl < 0 ∨ Xi S 5 6 ≤ rl ∨ a < 0 ∨ Xi S 5 2 ≤ a ∨ b < 0 ∨ Xi S 5 2 ≤ b) → z = 0) ∧ (0 ≤ rl → rl < Xi S 5 6 → 0 ≤ a → a < Xi S 5 2 → 0 ≤ b → b < Xi S 5 2 → z = relF S rl a b)))
set_option maxRecDepth 100000 in
theorem t_rs_related__q {S : sS} (hH : HI S) (rl : Int) (a : Int) (b : Int) (hrl : -2147483648 ≤ rl ∧ rl ≤ 2147483647) (ha : -2147483648 ≤ a ∧ a ≤ 2147483647) (hb : -2147483648 ≤ b ∧ b ≤ 2147483647) (d : Nat) : Mt lay0 (d + 3) m_rs_related [.ref 0, iv rl, iv a, iv b] S (Q_rs_related__q S rl a b) := by sorry
abbrev Q_rs_hasProperty__q (S : sS) (o : Int) (p : Int) : pst := fun r S1 => S = S1 ∧ (∃ z : Int, r = some (iv z) ∧ (0 ≤ z ∧ z ≤ 1) ∧ (z = 1 → 0 ≤ o ∧ o ≤ 23 ∧ 0 ≤ p ∧ p ≤ 11) ∧ ((z = 1 → (0 ≤ o ∧ o < Xi S 5 2) ∧ (0 ≤ p ∧ p < Xi S 5 5) ∧ iandF (ishrF (pps S (Xi S 21 o.toNat)) p) 1 = 1) ∧ (z = 0 → (o < 0 ∨ Xi S 5 2 ≤ o) ∨ (p < 0 ∨ Xi S 5 5 ≤ p) ∨ iandF (ishrF (pps S (Xi S 21 o.toNat)) p) 1 ≠ 1)))
set_option maxRecDepth 100000 in
theorem t_rs_hasProperty__q {S : sS} (hH : HI S) (o : Int) (p : Int) (ho : -2147483648 ≤ o ∧ o ≤ 2147483647) (hp : -2147483648 ≤ p ∧ p ≤ 2147483647) (d : Nat) : Mt lay0 (d + 3) m_rs_hasProperty [.ref 0, iv o, iv p] S (Q_rs_hasProperty__q S o p) := by sorry
abbrev Q_rs_property__q (S : sS) (o : Int) (p : Int) : pst := fun r S1 => S = S1 ∧ (∃ z : Int, r = some (iv z) ∧ (-2147483648 ≤ z ∧ z ≤ 2147483647) ∧ (((0 ≤ o ∧ o < Xi S 5 2) ∧ (0 ≤ p ∧ p < Xi S 5 5) ∧ iandF (ishrF (pps S (Xi S 21 o.toNat)) p) 1 = 1 → (Xi S 9 p.toNat = 1 → z = lof S o p.toNat) ∧ (Xi S 9 p.toNat ≠ 1 → z = vof S o p.toNat)) ∧ (¬ ((0 ≤ o ∧ o < Xi S 5 2) ∧ (0 ≤ p ∧ p < Xi S 5 5) ∧ iandF (ishrF (pps S (Xi S 21 o.toNat)) p) 1 = 1) → z = -1)))
set_option maxRecDepth 100000 in
theorem t_rs_property__q {S : sS} (hH : HI S) (o : Int) (p : Int) (ho : -2147483648 ≤ o ∧ o ≤ 2147483647) (hp : -2147483648 ≤ p ∧ p ≤ 2147483647) (d : Nat) : Mt lay0 (d + 4) m_rs_property [.ref 0, iv o, iv p] S (Q_rs_property__q S o p) := by sorry
abbrev Q_rs_letter__q (S : sS) (o : Int) (p : Int) (k : Int) : pst := fun r S1 => S = S1 ∧ (∃ z : Int, r = some (iv z) ∧ (-1 ≤ z ∧ z ≤ 255) ∧ ((((0 ≤ o ∧ o < Xi S 5 2) ∧ (0 ≤ p ∧ p < Xi S 5 5) ∧ iandF (ishrF (pps S (Xi S 21 o.toNat)) p) 1 = 1) ∧ Xi S 9 p.toNat = 1 ∧ 0 ≤ k ∧ k < lof S o p.toNat → z = Xi S (txr S) (vof S o p.toNat + k).toNat % 256) ∧ (¬ (((0 ≤ o ∧ o < Xi S 5 2) ∧ (0 ≤ p ∧ p < Xi S 5 5) ∧ iandF (ishrF (pps S (Xi S 21 o.toNat)) p) 1 = 1) ∧ Xi S 9 p.toNat = 1 ∧ 0 ≤ k ∧ k < lof S o p.toNat) → z = -1)))
set_option maxRecDepth 100000 in
theorem t_rs_letter__q {S : sS} (hH : HI S) (o : Int) (p : Int) (k : Int) (ho : -2147483648 ≤ o ∧ o ≤ 2147483647) (hp : -2147483648 ≤ p ∧ p ≤ 2147483647) (hk : -2147483648 ≤ k ∧ k ≤ 2147483647) (hX : TX S) (d : Nat) : Mt lay0 (d + 4) m_rs_letter [.ref 0, iv o, iv p, iv k] S (Q_rs_letter__q S o p k) := by sorry
abbrev Q_mo_told__q (S : sS) (w : Int) : pst := fun r S1 => S = S1 ∧ (∃ z : Int, r = some (iv z) ∧ (-1 ≤ z ∧ z ≤ 64) ∧ ((w = 0 → z = Xi S 904 16) ∧ (w = 1 → z = Xi S 904 18) ∧ (w = 2 → z = Xi S 904 19) ∧ (w = 3 → z = Xi S 904 23) ∧ (w = 4 → z = Xi S 904 30) ∧ (w = 5 → z = Xi S 904 32) ∧ (w = 6 → z = Xi S 904 41) ∧ (w = 7 → z = Xi S 904 47) ∧ (w = 8 → z = Xi S 904 49) ∧ (w = 9 → z = Xi S 904 130) ∧ (w = 10 → z = Xi S 904 55) ∧ (w < 0 ∨ 10 < w → z = -1)))
set_option maxRecDepth 100000 in
theorem t_mo_told__q {S : sS} (hH : HI S) (w : Int) (hw : -2147483648 ≤ w ∧ w ≤ 2147483647) (d : Nat) : Mt lay0 (d + 1) m_mo_told [.ref 904, iv w] S (Q_mo_told__q S w) := by sorry
abbrev Q_mo_object__q (S : sS) (i : Int) (w : Int) : pst := fun r S1 => S = S1 ∧ (∃ z : Int, r = some (iv z) ∧ (-1 ≤ z ∧ z ≤ 23) ∧ ((i < 0 ∨ Xi S 904 19 ≤ i → z = -1) ∧ (0 ≤ i → i < Xi S 904 19 → (w = 0 → z = Xi S 918 i.toNat) ∧ (w = 1 → z = Xi S 919 i.toNat) ∧ (w = 2 → Xi S 919 i.toNat = 0 → z = -1) ∧ (w = 2 → Xi S 919 i.toNat ≠ 0 → z = Xi S 920 i.toNat) ∧ (w < 0 ∨ 2 < w → z = -1))))
set_option maxRecDepth 100000 in
theorem t_mo_object__q {S : sS} (hH : HI S) (i : Int) (w : Int) (hi : -2147483648 ≤ i ∧ i ≤ 2147483647) (hw : -2147483648 ≤ w ∧ w ≤ 2147483647) (d : Nat) : Mt lay0 (d + 2) m_mo_object [.ref 904, iv i, iv w] S (Q_mo_object__q S i w) := by sorry
abbrev Q_mo_related__q (S : sS) (rl : Int) (a : Int) (b : Int) : pst := fun r S1 => S = S1 ∧ (∃ z : Int, r = some (iv z) ∧ (0 ≤ z ∧ z ≤ 1) ∧ (((rl < 0 ∨ Xi S 904 41 ≤ rl ∨ a < 0 ∨ Xi S 904 19 ≤ a ∨ b < 0 ∨ Xi S 904 19 ≤ b) → z = 0) ∧ (0 ≤ rl → rl < Xi S 904 41 → 0 ≤ a → a < Xi S 904 19 → 0 ≤ b → b < Xi S 904 19 → (z = 0 ↔ Xi S 940 (576 * rl + 24 * a + b).toNat = 0))))
set_option maxRecDepth 100000 in
theorem t_mo_related__q {S : sS} (hH : HI S) (rl : Int) (a : Int) (b : Int) (hrl : -2147483648 ≤ rl ∧ rl ≤ 2147483647) (ha : -2147483648 ≤ a ∧ a ≤ 2147483647) (hb : -2147483648 ≤ b ∧ b ≤ 2147483647) (d : Nat) : Mt lay0 (d + 2) m_mo_related [.ref 904, iv rl, iv a, iv b] S (Q_mo_related__q S rl a b) := by sorry
def md_mo_numberOf__q : List rec := [(904, 905, 154, 155)]
abbrev Q_mo_numberOf__q (S : sS) (o : Int) (p : Int) : pst := fun r S1 => HI S1 ∧ FR md_mo_numberOf__q S S1 ∧ (∃ z : Int, r = some (iv z) ∧ (-2147483648 ≤ z ∧ z ≤ 2147483647) ∧ (Xi S 928 p.toNat = 1 → OKT z (Xi S1 904 154)) ∧ (z = nuR S o p) ∧ (Xi S1 904 154 = nlR S o p))
set_option maxRecDepth 100000 in
theorem t_mo_numberOf__q {S : sS} (hH : HI S) (o : Int) (p : Int) (ho : 0 ≤ o ∧ o ≤ 23) (hp : 0 ≤ p ∧ p ≤ 11) (hB : ABV S) (hX : TXM S) (ho : o < Xi S 904 19) (d : Nat) : Mt lay0 (d + 1) m_mo_numberOf [.ref 904, iv o, iv p] S (Q_mo_numberOf__q S o p) := by sorry
abbrev Q_mo_leadsTo__q (S : sS) (room : Int) (dir : Int) : pst := fun r S1 => S = S1 ∧ (∃ z : Int, r = some (iv z) ∧ (-1 ≤ z ∧ z ≤ 23) ∧ (z = ldR S room dir))
set_option maxRecDepth 100000 in
theorem t_mo_leadsTo__q {S : sS} (hH : HI S) (room : Int) (dir : Int) (hroom : -2147483648 ≤ room ∧ room ≤ 2147483647) (hdir : -2147483648 ≤ dir ∧ dir ≤ 2147483647) (d : Nat) : Mt lay0 (d + 1) m_mo_leadsTo [.ref 904, iv room, iv dir] S (Q_mo_leadsTo__q S room dir) := by sorry
abbrev Q_mo_leads__q (S : sS) (room : Int) (dir : Int) : pst := fun r S1 => S = S1 ∧ (∃ z : Int, r = some (iv z) ∧ (-1 ≤ z ∧ z ≤ 23) ∧ (((room < 0 ∨ Xi S 904 19 ≤ room ∨ dir < 0 ∨ 6 ≤ dir) → z = -1) ∧ (0 ≤ room → room < Xi S 904 19 → 0 ≤ dir → dir < 6 → z = ldR S room dir)))
set_option maxRecDepth 100000 in
theorem t_mo_leads__q {S : sS} (hH : HI S) (room : Int) (dir : Int) (hroom : -2147483648 ≤ room ∧ room ≤ 2147483647) (hdir : -2147483648 ≤ dir ∧ dir ≤ 2147483647) (d : Nat) : Mt lay0 (d + 2) m_mo_leads [.ref 904, iv room, iv dir] S (Q_mo_leads__q S room dir) := by sorry
abbrev Q_mo_isProperty__q (S : sS) (o : Int) (p : Int) : pst := fun r S1 => S = S1 ∧ (∃ z : Int, r = some (iv z) ∧ (0 ≤ z ∧ z ≤ 1) ∧ (z = 1 → 0 ≤ o ∧ o ≤ 23 ∧ 0 ≤ p ∧ p ≤ 11 ∧ o < Xi S 904 19) ∧ ((z = 1 → (0 ≤ o ∧ o < Xi S 904 19) ∧ (0 ≤ p ∧ p < Xi S 904 32) ∧ hsR S (Xi S 918 o.toNat) p ≠ 0) ∧ (z = 0 → (o < 0 ∨ Xi S 904 19 ≤ o) ∨ (p < 0 ∨ Xi S 904 32 ≤ p) ∨ hsR S (Xi S 918 o.toNat) p = 0)))
set_option maxRecDepth 100000 in
theorem t_mo_isProperty__q {S : sS} (hH : HI S) (o : Int) (p : Int) (ho : -2147483648 ≤ o ∧ o ≤ 2147483647) (hp : -2147483648 ≤ p ∧ p ≤ 2147483647) (hB : ABV S) (d : Nat) : Mt lay0 (d + 2) m_mo_isProperty [.ref 904, iv o, iv p] S (Q_mo_isProperty__q S o p) := by sorry
def md_mo_property_2__q : List rec := [(904, 905, 154, 155)]
abbrev Q_mo_property_2__q (S : sS) (o : Int) (p : Int) : pst := fun r S1 => HI S1 ∧ FR md_mo_property_2__q S S1 ∧ (∃ z : Int, r = some (iv z) ∧ (-2147483648 ≤ z ∧ z ≤ 2147483647) ∧ (((0 ≤ o ∧ o < Xi S 904 19) ∧ (0 ≤ p ∧ p < Xi S 904 32) ∧ hsR S (Xi S 918 o.toNat) p ≠ 0 → (Xi S 928 p.toNat = 1 → z = nlR S o p) ∧ (Xi S 928 p.toNat ≠ 1 → z = nuR S o p)) ∧ (¬ ((0 ≤ o ∧ o < Xi S 904 19) ∧ (0 ≤ p ∧ p < Xi S 904 32) ∧ hsR S (Xi S 918 o.toNat) p ≠ 0) → z = -1)))
set_option maxRecDepth 100000 in
theorem t_mo_property_2__q {S : sS} (hH : HI S) (o : Int) (p : Int) (ho : -2147483648 ≤ o ∧ o ≤ 2147483647) (hp : -2147483648 ≤ p ∧ p ≤ 2147483647) (hB : ABV S) (hX : TXM S) (d : Nat) : Mt lay0 (d + 3) m_mo_property_2 [.ref 904, iv o, iv p] S (Q_mo_property_2__q S o p) := by sorry
def md_mo_letter__q : List rec := [(904, 905, 154, 155)]
abbrev Q_mo_letter__q (S : sS) (o : Int) (p : Int) (k : Int) : pst := fun r S1 => HI S1 ∧ FR md_mo_letter__q S S1 ∧ (∃ z : Int, r = some (iv z) ∧ (-1 ≤ z ∧ z ≤ 255) ∧ ((((0 ≤ o ∧ o < Xi S 904 19) ∧ (0 ≤ p ∧ p < Xi S 904 32) ∧ hsR S (Xi S 918 o.toNat) p ≠ 0) ∧ Xi S 928 p.toNat = 1 ∧ 0 ≤ k ∧ k < nlR S o p → z = Xi S 906 (nuR S o p + k).toNat % 256) ∧ (¬ (((0 ≤ o ∧ o < Xi S 904 19) ∧ (0 ≤ p ∧ p < Xi S 904 32) ∧ hsR S (Xi S 918 o.toNat) p ≠ 0) ∧ Xi S 928 p.toNat = 1 ∧ 0 ≤ k ∧ k < nlR S o p) → z = -1)))
set_option maxRecDepth 100000 in
theorem t_mo_letter__q {S : sS} (hH : HI S) (o : Int) (p : Int) (k : Int) (ho : -2147483648 ≤ o ∧ o ≤ 2147483647) (hp : -2147483648 ≤ p ∧ p ≤ 2147483647) (hk : -2147483648 ≤ k ∧ k ≤ 2147483647) (hB : ABV S) (hX : TXM S) (d : Nat) : Mt lay0 (d + 3) m_mo_letter [.ref 904, iv o, iv p, iv k] S (Q_mo_letter__q S o p k) := by sorry
abbrev Q_mo_kind__q (S : sS) (i : Int) (w : Int) : pst := fun r S1 => S = S1 ∧ (∃ z : Int, r = some (iv z) ∧ (-1 ≤ z ∧ z ≤ 64) ∧ (((i < 0 ∨ Xi S 904 16 ≤ i ∨ w < 0 ∨ 2 < w) → z = -1) ∧ (0 ≤ i → i < Xi S 904 16 → (w = 0 → z = Xi S 917 i.toNat) ∧ (w = 1 → z = npN S i (Xi S 904 32).toNat) ∧ (w = 2 → z = naN S i (Xi S 904 23).toNat))))
set_option maxRecDepth 100000 in
theorem t_mo_kind__q {S : sS} (hH : HI S) (i : Int) (w : Int) (hi : -2147483648 ≤ i ∧ i ≤ 2147483647) (hw : -2147483648 ≤ w ∧ w ≤ 2147483647) (hB : ABV S) (d : Nat) : Mt lay0 (d + 2) m_mo_kind [.ref 904, iv i, iv w] S (Q_mo_kind__q S i w) := by sorry
end
section
/-! QUESTIONS: the relation between calls -/
def RLQ (U S : sS) : Prop := RVO U S ∧ WHC U ∧ RCT U S ∧ KND U S ∧ RTY U S ∧ RAJ U S ∧ RRE U S ∧ RBT U S ∧ RVA U S ∧ ROB U S ∧ True ∧ RAQ U S ∧ RPR U S ∧ RWY U S ∧ True
def RLB (U S : sS) : Prop := RLQ U S ∧ TX3 U ∧ RCM U S ∧ BKC U S ∧ DFR U S ∧ RULS U S
theorem RLW.q {U S : sS} (h : RLW U S) : RLQ U S := by sorry
theorem RLA.b {U S : sS} (h : RLA U S) : RLB U S := by sorry
/-! QUESTIONS: both answer alike. Values and texts of objects -/
theorem trw_ch {U S : sS} {p : Nat} (hK : KND U S) (hp : ∀ k : Nat, (k : Int) < Xi U 5 0 → (Xi U (66 + (24 + k)) p = 0 ↔ Xi S 933 (12 * k + p) = 0)) : ∀ (n f : Nat) (k : Int), k < Xi U 5 0 → k + 1 ≤ n → k + 1 ≤ f → (chN S 933 12 p f k = -1 ∧ trwn U p n k = -1) ∨ (0 ≤ chN S 933 12 p f k ∧ chN S 933 12 p f k < Xi U 5 0 ∧ trwn U p n k = 24 + chN S 933 12 p f k ∧ Xi S 933 (12 * chN S 933 12 p f k + p).toNat ≠ 0) := by sorry
theorem fvo_r {U S : sS} {t : Int} (h : Xi U 5 4 = Xi S 904 30) (h8 : ∀ i : Nat, (i : Int) < Xi U 5 4 → Xi U 8 i = Xi S 927 i) : fvo U t = fvR S t := by sorry
/-- what both say of a property -/
theorem num_r {U S : sS} {o p : Int} (hw : RLQ U S) (ho : 0 ≤ o ∧ o < Xi U 5 2) (hp : 0 ≤ p ∧ p < Xi U 5 5) : VLQ U S p (vof U o p.toNat) (lof U o p.toNat) (nuR S o p) (nlR S o p) ∧ Xi U 9 p.toNat = Xi S 928 p.toNat := by sorry
/-! ways -/
theorem fw_spec {S : sS} {c : Nat} {room d a : Int} : ∀ (n : Nat) (i : Int), 0 ≤ i → (fwN S c room d n i = -1 ∧ ∀ k : Nat, i ≤ k → (k : Int) < i + n → ¬ (Xi S c k = room ∧ Xi S 944 k = d)) ∨ (∃ k : Nat, i ≤ k ∧ (k : Int) < i + n ∧ fwN S c room d n i = k ∧ (Xi S c k = room ∧ Xi S 944 k = d) ∧ ∀ j : Nat, i ≤ j → j < k → ¬ (Xi S c j = room ∧ Xi S 944 j = d)) := by sorry
def RBI (U : sS) (k : Nat) (room b f : Int) : Prop := (f = -1 ∧ ∀ x : Nat, (x : Int) < b → Xi U (196 + x) k ≠ room) ∨ (0 ≤ f ∧ f < b ∧ Xi U (196 + f.toNat) k = room ∧ ∀ x : Nat, (x : Int) < b → Xi U (196 + x) k = room → Xi U (221 + f.toNat) k ≤ Xi U (221 + x) k)
theorem rb_spec {U : sS} {k : Nat} {room : Int} : ∀ (n : Nat) (b f : Int), 0 ≤ b → RBI U k room b f → RBI U k room (b + n) (rbn U k room n b f) := by sorry
theorem ixor_6 {d : Int} (h : 0 ≤ d ∧ d < 6) : 0 ≤ ixorF d 1 ∧ ixorF d 1 < 6 := by sorry
theorem lead_r {U S : sS} {room d : Int} (hw : RWY U S) (hr : 0 ≤ room ∧ room < 24) (hd : 0 ≤ d ∧ d < 6) (h2 : Xi U 5 2 ≤ 24) : rbh U room d = ldR S room d := by sorry
/-! RULES in order -/
def rkU (S : sS) (a : Nat) : Int := if Xi S (248 + a) 2 ≠ -1 then 0 else if Xi S (248 + a) 3 ≠ -1 then 1 else 2
theorem rkU_i {S : sS} {a : Nat} : (Xi S (248 + a) 2 ≠ -1 → rkU S a = 0) ∧ (Xi S (248 + a) 2 = -1 → Xi S (248 + a) 3 ≠ -1 → rkU S a = 1) ∧ (Xi S (248 + a) 2 = -1 → Xi S (248 + a) 3 = -1 → rkU S a = 2) := by sorry
/-- a rule's key: smaller comes first -/
def kyU (S : sS) (a : Nat) : Int × Int × Int × Int := (rkU S a, (if rkU S a = 1 then - kab S (Xi S (248 + a) 3) else 0), (if rkU S a = 1 then - Xi S (248 + a) 4 else 0), - Xi S (248 + a) 5)
def kLt (x y : Int × Int × Int × Int) : Prop := x.1 < y.1 ∨ (x.1 = y.1 ∧ (x.2.1 < y.2.1 ∨ (x.2.1 = y.2.1 ∧ (x.2.2.1 < y.2.2.1 ∨ (x.2.2.1 = y.2.2.1 ∧ x.2.2.2 < y.2.2.2)))))
theorem kLt_t {x y z : Int × Int × Int × Int} (h : ¬ kLt y x) (g : ¬ kLt z y) : ¬ kLt z x := by sorry
theorem kLt_a {x y : Int × Int × Int × Int} (h : kLt x y) : ¬ kLt y x := by sorry
def CFU (S : sS) (a b : Nat) : Prop := kLt (kyU S a) (kyU S b)
theorem cfu_i {S : sS} {a b : Nat} {p q r s z : Int} (h1 : p = rkU S a) (h2 : q = rkU S b) (h : rkU S a = rkU S b → rkU S a = 1 → r = kab S (Xi S (248 + a) 3) ∧ s = kab S (Xi S (248 + b) 3)) (hz : (z = 1 ∧ p < q) ∨ (z = 0 ∧ q < p) ∨ (p = q ∧ p = 1 ∧ ((z = 1 ∧ s < r) ∨ (z = 0 ∧ r < s) ∨ (r = s ∧ ((z = 1 ∧ Xi S (248 + b) 4 < Xi S (248 + a) 4) ∨ (z = 0 ∧ Xi S (248 + a) 4 < Xi S (248 + b) 4) ∨ (Xi S (248 + a) 4 = Xi S (248 + b) 4 ∧ ((z = 1 ∧ Xi S (248 + b) 5 < Xi S (248 + a) 5) ∨ (z = 0 ∧ Xi S (248 + a) 5 ≤ Xi S (248 + b) 5))))))) ∨ (p = q ∧ p ≠ 1 ∧ ((z = 1 ∧ Xi S (248 + b) 5 < Xi S (248 + a) 5) ∨ (z = 0 ∧ Xi S (248 + a) 5 ≤ Xi S (248 + b) 5)))) : (z = 1 → CFU S a b) ∧ (z = 0 → ¬ CFU S a b) := by sorry
/-- one rule is ahead of another -/
def AHU (S : sS) (a b : Nat) : Prop := CFU S a b ∨ (¬ CFU S b a ∧ a < b)
theorem ahu_a {S : sS} {a b : Nat} (h : AHU S a b) : ¬ AHU S b a := by sorry
theorem ahu_n {S : sS} {a b : Nat} (h : AHU S a b) : ¬ CFU S b a := by sorry
/-- a sum over the first rows -/
def smN (f : Nat → Int) : Nat → Int
  | 0 => 0
  | n + 1 => smN f n + f n
theorem smN_e {f g : Nat → Int} : ∀ {n : Nat}, (∀ j, j < n → f j = g j) → smN f n = smN g n := by sorry
theorem smN_0 {f : Nat → Int} : ∀ {n : Nat}, (∀ j, j < n → f j = 0) → smN f n = 0 := by sorry
theorem smN_1 {f : Nat → Int} {r : Nat} {x : Int} : ∀ {n : Nat}, r < n → f r = x → (∀ j, j < n → j ≠ r → f j = 0) → smN f n = x := by sorry
theorem smN_w {f g : Nat → Int} {p : Nat} : ∀ {n : Nat}, p + 1 < n → f p = g (p + 1) → f (p + 1) = g p → (∀ j, j < n → j ≠ p → j ≠ p + 1 → f j = g j) → smN f n = smN g n := by sorry
/-- the first rules stand in order -/
def SRT (S T : sS) (i : Int) : Prop := (∀ j : Nat, (j : Int) < i → 0 ≤ Xi T 272 j ∧ Xi T 272 j < i) ∧ (∀ j k : Nat, j < k → (k : Int) < i → AHU S (Xi T 272 j).toNat (Xi T 272 k).toNat) ∧ ∀ P : Nat → Int, smN (fun j => P (Xi T 272 j).toNat) i.toNat = smN P i.toNat
/-- the same with a hole -/
def HOL (S T : sS) (h i : Int) : Prop := (∀ j : Nat, (j : Int) ≤ i → (j : Int) ≠ h → 0 ≤ Xi T 272 j ∧ Xi T 272 j < i) ∧ (∀ j k : Nat, j < k → (k : Int) ≤ i → (j : Int) ≠ h → (k : Int) ≠ h → AHU S (Xi T 272 j).toNat (Xi T 272 k).toNat) ∧ (∀ j : Nat, h < j → (j : Int) ≤ i → CFU S i.toNat (Xi T 272 j).toNat) ∧ ∀ P : Nat → Int, smN (fun j => if (j : Int) = h then 0 else P (Xi T 272 j).toNat) (i.toNat + 1) = smN P i.toNat
theorem srt_0 {S T : sS} {i : Int} (h : i = 0) : SRT S T i := by sorry
theorem hol_0 {S T : sS} {i : Int} (h : SRT S T i) (i0 : 0 ≤ i) : HOL S T i i := by sorry
theorem hol_s {S T U : sS} {h i x : Int} (g : HOL S T h i) (h0 : 0 < h) (hi : h ≤ i) (e : U = uI T 272 h.toNat (Int32.ofInt x)) (ex : x = Xi T 272 (h - 1).toNat) (rx : rg x) (cf : CFU S i.toNat (Xi T 272 (h - 1).toNat).toNat) : HOL S U (h - 1) i := by sorry
theorem srt_s {S T U : sS} {h i : Int} (g : HOL S T h i) (h0 : 0 ≤ h) (hi : h ≤ i) (i24 : i < 24) (e : U = uI T 272 h.toNat (Int32.ofInt i)) (cf : h ≤ 0 ∨ ¬ CFU S i.toNat (Xi T 272 (h - 1).toNat).toNat) : SRT S U (i + 1) := by sorry
noncomputable def ctP (P : Prop) : Int := @ite Int P (Classical.propDecidable P) 1 0
theorem ctP_1 {P : Prop} (h : P) : ctP P = 1 := by sorry
theorem ctP_0 {P : Prop} (h : ¬ P) : ctP P = 0 := by sorry
theorem ctP_e {P Q : Prop} (h : P ↔ Q) : ctP P = ctP Q := by sorry
theorem ctP_r {P : Prop} : 0 ≤ ctP P ∧ ctP P ≤ 1 := by sorry
/-- how many rules of the same sort are ahead of a rule -/
noncomputable def noU (S : sS) (n r : Nat) : Int := smN (fun s => ctP (s ≠ r ∧ Xi S (248 + s) 0 = Xi S (248 + r) 0 ∧ AHU S s r)) n
noncomputable def pioN (S : sS) (i : Nat) (m : Nat) : Int := smN (fun j => ctP (Xi S (248 + (Xi S 272 j).toNat) 0 = Xi S (248 + i) 0)) m
def PIO (S : sS) (i : Nat) (n z : Int) : Prop := ∃ m : Nat, (m : Int) ≤ n ∧ z = pioN S i m ∧ (∀ j : Nat, j < m → Xi S 272 j ≠ i) ∧ ((m : Int) = n ∨ Xi S 272 m = i)
theorem pio_no {S : sS} {i : Nat} {n z : Int} (h : PIO S i n z) (g : SRT S S n) (hi : (i : Int) < n) : z = noU S n.toNat i := by sorry
/-! the reference's order -/
def ocR (S : sS) (a : Nat) : Int := if Xi S 980 a ≠ -1 then 0 else if Xi S 981 a ≠ -1 then 1 else 2
theorem ocR_i {S : sS} {a : Nat} : (Xi S 980 a ≠ -1 → ocR S a = 0) ∧ (Xi S 980 a = -1 → Xi S 981 a ≠ -1 → ocR S a = 1) ∧ (Xi S 980 a = -1 → Xi S 981 a = -1 → ocR S a = 2) := by sorry
def dpN (S : sS) : Nat → Int → Int
  | 0, _ => 0
  | f + 1, k => if k < 0 then 0 else 1 + dpN S f (Xi S 917 k.toNat)
theorem dpN_st {S : sS} (hB : ABV S) : ∀ (f g : Nat) (k : Int), k ≤ 15 → k + 2 ≤ f → k + 2 ≤ g → dpN S f k = dpN S g k := by sorry
/-- how many kinds a chain has -/
def dpR (S : sS) (k : Int) : Int := dpN S 17 k
theorem dpR_n {S : sS} {k : Int} (h : k < 0) : dpR S k = 0 := by sorry
theorem dpR_s {S : sS} {k : Int} (hB : ABV S) (h : 0 ≤ k) (h2 : k ≤ 15) : dpR S k = 1 + dpR S (Xi S 917 k.toNat) := by sorry
def kyR (S : sS) (a : Nat) : Int × Int × Int × Int := (ocR S a, (if ocR S a = 1 then - dpR S (Xi S 981 a) else 0), (if ocR S a = 1 then - Xi S 982 a else 0), - Xi S 985 a)
def AHR (S : sS) (a b : Nat) : Prop := kLt (kyR S a) (kyR S b) ∨ (¬ kLt (kyR S b) (kyR S a) ∧ a < b)
theorem ahr_i {S : sS} {a b : Nat} {z r s : Int} (h : ocR S a = ocR S b → ocR S a = 1 → r = dpR S (Xi S 981 a) ∧ s = dpR S (Xi S 981 b)) (hz : (z = 1 ∧ ocR S a < ocR S b) ∨ (z = 0 ∧ ocR S b < ocR S a) ∨ (ocR S a = ocR S b ∧ ocR S a = 1 ∧ ((z = 1 ∧ s < r) ∨ (z = 0 ∧ r < s) ∨ (r = s ∧ ((z = 1 ∧ Xi S 982 b < Xi S 982 a) ∨ (z = 0 ∧ Xi S 982 a < Xi S 982 b) ∨ (Xi S 982 a = Xi S 982 b ∧ ((z = 1 ∧ Xi S 985 b < Xi S 985 a) ∨ (z = 0 ∧ Xi S 985 a < Xi S 985 b) ∨ (Xi S 985 a = Xi S 985 b ∧ ((z = 1 ∧ a < b) ∨ (z = 0 ∧ b ≤ a))))))))) ∨ (ocR S a = ocR S b ∧ ocR S a ≠ 1 ∧ ((z = 1 ∧ Xi S 985 b < Xi S 985 a) ∨ (z = 0 ∧ Xi S 985 a < Xi S 985 b) ∨ (Xi S 985 a = Xi S 985 b ∧ ((z = 1 ∧ a < b) ∨ (z = 0 ∧ b ≤ a)))))) : (z = 1 → AHR S a b) ∧ (z = 0 → ¬ AHR S a b) := by sorry
noncomputable def noR (S : sS) (n r : Nat) : Int := smN (fun s => ctP (s ≠ r ∧ Xi S 978 s = Xi S 978 r ∧ AHR S s r)) n
theorem noR_s {S : sS} {r : Nat} {i c x : Int} (h : c = noR S i.toNat r) (i0 : 0 ≤ i) (hx : (x = 1 ∧ i.toNat ≠ r ∧ Xi S 978 i.toNat = Xi S 978 r ∧ AHR S i.toNat r) ∨ (x = 0 ∧ ¬ (i.toNat ≠ r ∧ Xi S 978 i.toNat = Xi S 978 r ∧ AHR S i.toNat r))) : c + x = noR S (i + 1).toNat r := by sorry
/-- both orders are the same -/
theorem kab_dp {U S : sS} (h : KND U S) (hB : ABV S) : ∀ (n : Nat) (k c : Int), k < Xi U 5 0 → k + 1 ≤ n → kabn U n k c = c + dpR S k := by sorry
theorem kab_r {U S : sS} {k : Int} (h : KND U S) (hB : ABV S) (hk : 0 ≤ k ∧ k < Xi U 5 0) : kab U k + 1 = dpR S k := by sorry
theorem ahu_r {U S : sS} {r s : Nat} (kn : KND U S) (hB : ABV S) (h1 : RUQ1 U S r) (h2 : RUQ1 U S s) : AHU U r s ↔ AHR S r s := by sorry
theorem no_r {U S : sS} {n : Nat} {r : Nat} (kn : KND U S) (hB : ABV S) (hR : ∀ s : Nat, s < n → RUQ1 U S s) (hr : r < n) : noU U n r = noR S n r := by sorry
theorem pio_1 {S : sS} {i : Nat} {v c : Int} (h : c = pioN S i v.toNat) (v0 : 0 ≤ v) (e : Xi S (248 + (Xi S 272 v.toNat).toNat) 0 = Xi S (248 + i) 0) : c + 1 = pioN S i (v + 1).toNat := by sorry
theorem pio_0 {S : sS} {i : Nat} {v c : Int} (h : c = pioN S i v.toNat) (v0 : 0 ≤ v) (e : Xi S (248 + (Xi S 272 v.toNat).toNat) 0 ≠ Xi S (248 + i) 0) : c = pioN S i (v + 1).toNat := by sorry
theorem cfu_k {l : List rec} {S T : sS} (F : FR l S T) (e : kdis l [(6, 7), (248, 272)] = true) (a b : Nat) (ha : a < 24) (hb : b < 24) : CFU T a b ↔ CFU S a b := by sorry
/-! QUESTIONS: how many bits -/
def bc1 (i : Int) : Int := i - iandF (iushrF i 1) 1431655765
def bc2 (a : Int) : Int := iandF a 858993459 + iandF (iushrF a 2) 858993459
def bc3 (b : Int) : Int := iandF (b + iushrF b 4) 252645135
def bc4 (c : Int) : Int := c + iushrF c 8
def bc5 (c : Int) : Int := c + iushrF c 16
def bcJ (i : Int) : Int := iandF (bc5 (bc4 (bc3 (bc2 (bc1 i))))) 63
/-- bits below n -/
def pcN (v : Int) : Nat → Int
  | 0 => 0
  | n + 1 => pcN v n + (if gb v (n : Int) then 1 else 0)
def bcK (a : Nat) : Bool := (List.range 64).all (fun b => decide (bcJ ((64 * a + b : Nat) : Int) = pcN ((64 * a + b : Nat) : Int) 12))
set_option maxRecDepth 100000 in
theorem bcK_all : (List.range 64).all bcK = true := by sorry
theorem bc_pc {v : Int} (h : 0 ≤ v ∧ v < 4096) : bcJ v = pcN v 12 := by sorry
theorem pc_np {U S : sS} {k v : Int} (hv : v = pps U k) (kn : KND U S) (hk : 0 ≤ k ∧ k < Xi U 5 0) : ∀ n : Nat, n ≤ 12 → pcN v n = npN S k n := by sorry
theorem np_end {S : sS} {k c : Int} (c0 : 0 ≤ c) (h : ∀ p : Int, c ≤ p → p < 12 → hsR S k p = 0) : ∀ n : Nat, c ≤ n → n ≤ 12 → npN S k n = npN S k c.toNat := by sorry
theorem adj_na {U S : sS} {k : Int} (kn : KND U S) (hk : 0 ≤ k ∧ k < Xi U 5 0) (n0 : Nat) (h : ∀ a : Nat, a < n0 → Xi U 10 a = Xi S 921 a) : ∀ (n : Nat) (i : Nat) (c : Int), i + n = n0 → c = naN S k i → adjn U k n i c = naN S k n0 := by sorry
end
section
/-! QUESTIONS: both answer alike, given the posts of both rows -/
theorem told_same {U S : sS} {w z y : Int} (h : RLB U S) (a : (w = 9 → z = Xi U 246 2) ∧ (w = 10 → z = Xi U 882 3) ∧ (0 ≤ w → w ≤ 8 → z = Xi U 5 w.toNat) ∧ (w < 0 ∨ 10 < w → z = -1)) (b : (w = 0 → y = Xi S 904 16) ∧ (w = 1 → y = Xi S 904 18) ∧ (w = 2 → y = Xi S 904 19) ∧ (w = 3 → y = Xi S 904 23) ∧ (w = 4 → y = Xi S 904 30) ∧ (w = 5 → y = Xi S 904 32) ∧ (w = 6 → y = Xi S 904 41) ∧ (w = 7 → y = Xi S 904 47) ∧ (w = 8 → y = Xi S 904 49) ∧ (w = 9 → y = Xi S 904 130) ∧ (w = 10 → y = Xi S 904 55) ∧ (w < 0 ∨ 10 < w → y = -1)) : z = y := by sorry
theorem object_same {U S : sS} {i w z y : Int} (h : RLQ U S) (a : (i < 0 ∨ Xi U 5 2 ≤ i → z = -1) ∧ (0 ≤ i → i < Xi U 5 2 → (w = 0 → z = Xi U 21 i.toNat) ∧ (w = 1 → z = Xi U 22 i.toNat) ∧ (w = 2 → z = Xi U 23 i.toNat) ∧ (w < 0 ∨ 2 < w → z = -1))) (b : (i < 0 ∨ Xi S 904 19 ≤ i → y = -1) ∧ (0 ≤ i → i < Xi S 904 19 → (w = 0 → y = Xi S 918 i.toNat) ∧ (w = 1 → y = Xi S 919 i.toNat) ∧ (w = 2 → Xi S 919 i.toNat = 0 → y = -1) ∧ (w = 2 → Xi S 919 i.toNat ≠ 0 → y = Xi S 920 i.toNat) ∧ (w < 0 ∨ 2 < w → y = -1))) : z = y := by sorry
theorem leads_same {U S : sS} {room dir z y : Int} (h : RLQ U S) (a : ((room < 0 ∨ Xi U 5 2 ≤ room ∨ dir < 0 ∨ 6 ≤ dir) → z = -1) ∧ (0 ≤ room → room < Xi U 5 2 → 0 ≤ dir → dir < 6 → z = rbh U room dir)) (b : ((room < 0 ∨ Xi S 904 19 ≤ room ∨ dir < 0 ∨ 6 ≤ dir) → y = -1) ∧ (0 ≤ room → room < Xi S 904 19 → 0 ≤ dir → dir < 6 → y = ldR S room dir)) : z = y := by sorry
theorem related_same {U S : sS} {r a b z y : Int} (h : RLQ U S) (hz : 0 ≤ z ∧ z ≤ 1) (hy : 0 ≤ y ∧ y ≤ 1) (p : ((r < 0 ∨ Xi U 5 6 ≤ r ∨ a < 0 ∨ Xi U 5 2 ≤ a ∨ b < 0 ∨ Xi U 5 2 ≤ b) → z = 0) ∧ (0 ≤ r → r < Xi U 5 6 → 0 ≤ a → a < Xi U 5 2 → 0 ≤ b → b < Xi U 5 2 → z = relF U r a b)) (q : ((r < 0 ∨ Xi S 904 41 ≤ r ∨ a < 0 ∨ Xi S 904 19 ≤ a ∨ b < 0 ∨ Xi S 904 19 ≤ b) → y = 0) ∧ (0 ≤ r → r < Xi S 904 41 → 0 ≤ a → a < Xi S 904 19 → 0 ≤ b → b < Xi S 904 19 → (y = 0 ↔ Xi S 940 (576 * r + 24 * a + b).toNat = 0))) : z = y := by sorry
theorem kind_same {U S : sS} {i w z y : Int} (h : RLQ U S) (hv : 0 ≤ pps U i ∧ pps U i < 4096) (p : ((i < 0 ∨ Xi U 5 0 ≤ i ∨ w < 0 ∨ 2 < w) → z = -1) ∧ (0 ≤ i → i < Xi U 5 0 → (w = 0 → z = Xi U 6 i.toNat) ∧ (w = 1 → z = bcJ (pps U i)) ∧ (w = 2 → z = adjs U i))) (q : ((i < 0 ∨ Xi S 904 16 ≤ i ∨ w < 0 ∨ 2 < w) → y = -1) ∧ (0 ≤ i → i < Xi S 904 16 → (w = 0 → y = Xi S 917 i.toNat) ∧ (w = 1 → y = npN S i (Xi S 904 32).toNat) ∧ (w = 2 → y = naN S i (Xi S 904 23).toNat))) : z = y := by sorry
theorem hasp_r {U S : sS} {o p : Int} (h : RLQ U S) : ((0 ≤ o ∧ o < Xi U 5 2) ∧ (0 ≤ p ∧ p < Xi U 5 5) ∧ iandF (ishrF (pps U (Xi U 21 o.toNat)) p) 1 = 1) ↔ ((0 ≤ o ∧ o < Xi S 904 19) ∧ (0 ≤ p ∧ p < Xi S 904 32) ∧ hsR S (Xi S 918 o.toNat) p ≠ 0) := by sorry
theorem property_same {U S : sS} {o p z y : Int} (h : RLQ U S)
    (a : ((0 ≤ o ∧ o < Xi U 5 2) ∧ (0 ≤ p ∧ p < Xi U 5 5) ∧ iandF (ishrF (pps U (Xi U 21 o.toNat)) p) 1 = 1 → (Xi U 9 p.toNat = 1 → z = lof U o p.toNat) ∧ (Xi U 9 p.toNat ≠ 1 → z = vof U o p.toNat)) ∧ (¬ ((0 ≤ o ∧ o < Xi U 5 2) ∧ (0 ≤ p ∧ p < Xi U 5 5) ∧ iandF (ishrF (pps U (Xi U 21 o.toNat)) p) 1 = 1) → z = -1))
    (b : ((0 ≤ o ∧ o < Xi S 904 19) ∧ (0 ≤ p ∧ p < Xi S 904 32) ∧ hsR S (Xi S 918 o.toNat) p ≠ 0 → (Xi S 928 p.toNat = 1 → y = nlR S o p) ∧ (Xi S 928 p.toNat ≠ 1 → y = nuR S o p)) ∧ (¬ ((0 ≤ o ∧ o < Xi S 904 19) ∧ (0 ≤ p ∧ p < Xi S 904 32) ∧ hsR S (Xi S 918 o.toNat) p ≠ 0) → y = -1)) : z = y := by sorry
theorem letter_same {U S : sS} {o p k z y : Int} (h : RLQ U S)
    (a : (((0 ≤ o ∧ o < Xi U 5 2) ∧ (0 ≤ p ∧ p < Xi U 5 5) ∧ iandF (ishrF (pps U (Xi U 21 o.toNat)) p) 1 = 1) ∧ Xi U 9 p.toNat = 1 ∧ 0 ≤ k ∧ k < lof U o p.toNat → z = Xi U (txr U) (vof U o p.toNat + k).toNat % 256) ∧ (¬ (((0 ≤ o ∧ o < Xi U 5 2) ∧ (0 ≤ p ∧ p < Xi U 5 5) ∧ iandF (ishrF (pps U (Xi U 21 o.toNat)) p) 1 = 1) ∧ Xi U 9 p.toNat = 1 ∧ 0 ≤ k ∧ k < lof U o p.toNat) → z = -1))
    (b : (((0 ≤ o ∧ o < Xi S 904 19) ∧ (0 ≤ p ∧ p < Xi S 904 32) ∧ hsR S (Xi S 918 o.toNat) p ≠ 0) ∧ Xi S 928 p.toNat = 1 ∧ 0 ≤ k ∧ k < nlR S o p → y = Xi S 906 (nuR S o p + k).toNat % 256) ∧ (¬ (((0 ≤ o ∧ o < Xi S 904 19) ∧ (0 ≤ p ∧ p < Xi S 904 32) ∧ hsR S (Xi S 918 o.toNat) p ≠ 0) ∧ Xi S 928 p.toNat = 1 ∧ 0 ≤ k ∧ k < nlR S o p) → y = -1)) : z = y := by sorry
theorem rule_same {U S : sS} {i w z y : Int} (h : RLB U S) (hB : ABV S) (hs : SRT U U (Xi U 246 2)) (a : ((i < 0 ∨ Xi U 246 2 ≤ i ∨ w < 0 ∨ 7 < w) → z = -1) ∧ (0 ≤ i → i < Xi U 246 2 → (0 ≤ w → w ≤ 6 → z = Xi U (248 + i.toNat) w.toNat) ∧ (w = 7 → PIO U i.toNat (Xi U 246 2) z))) (b : ((i < 0 ∨ Xi S 904 130 ≤ i ∨ w < 0 ∨ 7 < w) → y = -1) ∧ (0 ≤ i → i < Xi S 904 130 → (w = 0 → y = Xi S 978 i.toNat) ∧ (w = 1 → y = Xi S 979 i.toNat) ∧ (w = 2 → y = Xi S 980 i.toNat) ∧ (w = 3 → y = Xi S 981 i.toNat) ∧ (w = 4 → y = Xi S 982 i.toNat) ∧ (w = 5 → y = Xi S 985 i.toNat) ∧ (w = 6 → y = Xi S 987 i.toNat) ∧ (w = 7 → y = noR S (Xi S 904 130).toNat i.toNat))) : z = y := by sorry
end
end
