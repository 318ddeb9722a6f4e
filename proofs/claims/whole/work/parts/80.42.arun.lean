/-! WHOLE METHODS of the machine with ranges: calls, returns; what it answers, the small machine answers within the ranges -/
abbrev aF : Type := Nat → List (Nat × aV) → List aV → aT → Option acfg
abbrev aO : Type := Sum aF (Sum (Nat × mT × Nat) Nat)
abbrev acal : Type := mT → List aV → aT → Option (Option aV × aT)
def isC (i : Instr) : Bool := match i with
  | .invokevirtual _ => true
  | .invokestatic _ => true
  | .ireturn => true
  | .lreturn => true
  | .areturn => true
  | .return_ => true
  | _ => false
def aopC (kL : Nat → Option (Nat × mT × Nat)) (i : Instr) : Option aO := match i with
  | .invokevirtual ix => (match kL ix with
    | some (0, md, na) => some (.inr (.inl (0, md, na)))
    | some (4, md, na) => some (.inr (.inl (4, md, na)))
    | _ => none)
  | .invokestatic ix => (match kL ix with
    | some (1, md, na) => some (.inr (.inl (1, md, na)))
    | some (3, md, na) => some (.inr (.inl (3, md, na)))
    | some (9, _, _) => some (.inr (.inr 9))
    | some (10, _, _) => some (.inr (.inr 10))
    | some (11, _, _) => some (.inr (.inr 11))
    | some (12, _, _) => some (.inr (.inr 12))
    | _ => none)
  | .ireturn => some (.inr (.inr 20))
  | .lreturn => some (.inr (.inr 21))
  | .areturn => some (.inr (.inr 22))
  | .return_ => some (.inr (.inr 23))
  | _ => none
noncomputable def lkR (l : List (Nat × Instr)) (pc : Nat) : Option Instr := List.rec none (fun q _ ih => Prod.casesOn q (fun k i => bif Nat.beq k pc then some i else ih)) l
noncomputable def aop (lay : Nat → Nat × Nat) (fL : Nat → Option (Nat × Nat × Bool)) (cL : Nat → Option Value) (kL : Nat → Option (Nat × mT × Nat)) (nL : Nat) (code : List (Nat × Instr)) (pc : Nat) : Option aO := match lkR code pc with
  | none => none
  | some i => bif isC i then aopC kL i else (match astp lay fL cL nL i with
    | some f => some (.inl f)
    | none => none)
noncomputable def spl (n : Nat) : List aV → List aV → Option (List aV × List aV) := Nat.rec (motive := fun _ => List aV → List aV → Option (List aV × List aV)) (fun acc st => some (acc, st)) (fun _ ih acc st => List.casesOn st none (fun v r => ih (v :: acc) r)) n
noncomputable def acs (st : List aV) : Nat := List.rec 0 (fun v _ ih => Nat.add (bif isJ v then 2 else 1) ih) st
noncomputable def alv (av : List aV) : Nat → Option (List (Nat × aV)) := List.rec (motive := fun _ => Nat → Option (List (Nat × aV))) (fun _ => some []) (fun v _ ih j => frcN (bif isJ v then Nat.add j 2 else Nat.add j 1) (fun j1 => Option.casesOn (ih j1) none (fun t => some ((j, v) :: t)))) av
def retIA (ret : Option FieldType) (a : aI) : Bool := match a with
  | .inl z => retI ret (Int32.ofInt z)
  | .inr _ => (match ret with
    | some .int => true
    | _ => false)
noncomputable def acO (lay : Nat → Nat × Nat) (kd ci : Nat) (av r : List aV) : Bool := Nat.ble (acs r) 8 && (bif Nat.beq kd 0 then (match av with
  | .inr (.inr (some k)) :: _ => layIs lay k 0 ci
  | _ => false) else bif Nat.beq kd 4 then (match av with
  | .inr (.inr (some k)) :: _ => Nat.ble SB k && (strT[k - SB]?).isSome
  | _ => false) else true)
noncomputable def aret {β : Type} (fin : Option aV → aT → Option β) (ret : Option FieldType) (t : Nat) (st : List aV) (T : aT) : Option β :=
  bif Nat.beq t 20 then (match st with
    | [.inl a] => bif retIA ret a then fin (some (.inl a)) T else none
    | _ => none)
  else bif Nat.beq t 21 then (match st with
    | [.inr (.inl a)] => (match ret with
      | some .long => fin (some (.inr (.inl a))) T
      | _ => none)
    | _ => none)
  else bif Nat.beq t 22 then (match st with
    | [.inr (.inr a)] => bif retA ret (rv a) then fin (some (.inr (.inr a))) T else none
    | _ => none)
  else bif Nat.beq t 23 then (match st with
    | [] => (match ret with
      | none => fin none T
      | _ => none)
    | _ => none)
  else none
noncomputable def amth (t : Nat) (st : List aV) : Option (aI × List aV) :=
  bif Nat.beq t 10 then (match st with
    | .inl b :: .inl a :: r => bif Nat.ble (acs r) 8 then some (bin (fun x y => if x < y then y else x) a b, r) else none
    | _ => none)
  else bif Nat.beq t 11 then (match st with
    | .inl b :: .inl a :: r => bif Nat.ble (acs r) 8 then some (bin (fun x y => if y < x then y else x) a b, r) else none
    | _ => none)
  else bif Nat.beq t 12 then (match st with
    | .inl a :: r => bif Nat.ble (acs r) 8 then some (un (fun x => if 0 ≤ x then x else 0 - x) a, r) else none
    | _ => none)
  else none
/-- System.arraycopy of nothing -/
noncomputable def acpy (lay : Nat → Nat × Nat) (st : List aV) : Option (List aV) := match st with
  | .inl (.inl (.ofNat n)) :: .inl (.inl (.ofNat dp)) :: .inr (.inr (some b)) :: .inl (.inl (.ofNat sp)) :: .inr (.inr (some a)) :: r => bif (Nat.beq n 0 && (Nat.ble sp (lay a).2 && Nat.ble dp (lay b).2)) && (((Nat.beq (lay a).1 1 && Nat.beq (lay b).1 1) || ((Nat.beq (lay a).1 2 && Nat.beq (lay b).1 2) || (Nat.beq (lay a).1 3 && Nat.beq (lay b).1 3))) && Nat.ble (acs r) 8) then some r else none
  | _ => none
/-- one round: a step, a call, Math, or the end -/
noncomputable def adsp {β : Type} (fin : Option aV → aT → Option β) (lay : Nat → Nat × Nat) (ret : Option FieldType) (call : acal) (ih : Nat → List (Nat × aV) → List aV → aT → Option β) (o : Option aO) (pc : Nat) (lv : List (Nat × aV)) (st : List aV) (T : aT) : Option β := match o with
  | none => none
  | some (.inl f) => (match f pc lv st T with
    | some (pc1, lv1, st1, T1) => ih pc1 lv1 st1 T1
    | none => none)
  | some (.inr (.inl (kd, md, na))) => (match spl (bif Nat.beq kd 0 || Nat.beq kd 4 then Nat.succ na else na) [] st with
    | some (av, r) => bif acO lay kd md.2.2.2.2.1 av r then (match call md av T with
      | some (some v, T1) => frcN (Nat.add pc 3) (fun pc => ih pc lv (v :: r) T1)
      | some (none, T1) => frcN (Nat.add pc 3) (fun pc => ih pc lv r T1)
      | none => none) else none
    | none => none)
  | some (.inr (.inr t)) => bif Nat.blt t 20 then (bif Nat.beq t 9 then (match acpy lay st with
    | some r => frcN (Nat.add pc 3) (fun pc => ih pc lv r T)
    | none => none) else (match amth t st with
    | some (a, r) => frcA a (fun a => frcN (Nat.add pc 3) (fun pc => ih pc lv (.inl a :: r) T))
    | none => none)) else aret fin ret t st T
def finR (r : Option aV) (T : aT) : Option (Option aV × aT) := some (r, T)
noncomputable def arun (lay : Nat → Nat × Nat) (fL : Nat → Option (Nat × Nat × Bool)) (cL : Nat → Option Value) (kL : Nat → Option (Nat × mT × Nat)) (nL : Nat) (ret : Option FieldType) (call : acal) (code : List (Nat × Instr)) (F : Nat) : Nat → List (Nat × aV) → List aV → aT → Option (Option aV × aT) := Nat.rec (motive := fun _ => Nat → List (Nat × aV) → List aV → aT → Option (Option aV × aT)) (fun _ _ _ _ => none) (fun _ ih pc lv st T => adsp finR lay ret call ih (aop lay fL cL kL nL code pc) pc lv st T) F
noncomputable def ackI (av : List aV) (T : aT) : Option (Option aV × aT) := match av with
  | [.inl (.inl x), .inl (.inl n)] => bif decide (0 ≤ x) && decide (x < n) then some (none, T) else none
  | _ => none
noncomputable def aevd (lay : Nat → Nat × Nat) (F d : Nat) : acal := Nat.rec (motive := fun _ => acal) (fun _ _ _ => none) (fun _ ih q av T => bif Nat.beq q.2.2.2.2.1 99 then ackI av T else bif Nat.ble (acs av) q.2.2.1 then (match alv av 0 with
  | some al => arun lay (fLs q.2.2.2.2.1) (cLs q.2.2.2.2.1) (kLs q.2.2.2.2.1) q.2.2.1 q.2.2.2.1 ih q.2.2.2.2.2 F 0 al [] T
  | none => none) else none) d
def gO (a : Option aV) (v : Option Value) : Prop := match a, v with
  | none, none => True
  | some a, some v => gV a v
  | _, _ => False
theorem spl_ok : ∀ (n : Nat) (acc as a1 r1 : List aV), spl n acc as = some (a1, r1) → ∀ (st vacc : List Value), gSt as st → gSt acc vacc → n ≤ st.length ∧ gSt r1 (st.drop n) ∧ gSt a1 ((st.take n).reverse ++ vacc) := by
  intro n
  induction n with
  | zero =>
    intro acc as a1 r1 h st vacc hs ha
    replace h : some (acc, as) = some (a1, r1) := h
    cases h
    exact ⟨Nat.zero_le _, hs, ha⟩
  | succ n ih =>
    intro acc as a1 r1 h st vacc hs ha
    cases as with
    | nil => exact nomatch (show (none : Option (List aV × List aV)) = some _ from h)
    | cons v r =>
      replace h : spl n (v :: acc) r = some (a1, r1) := h
      obtain ⟨w, s, rfl, hw, hr⟩ := g1 hs
      obtain ⟨q1, q2, q3⟩ := ih _ _ _ _ h s (w :: vacc) hr ⟨hw, ha⟩
      refine ⟨Nat.succ_le_succ q1, q2, ?_⟩
      rw [List.take_succ_cons, List.reverse_cons, List.append_assoc]
      exact q3
theorem gV_cat {a : aV} {v : Value} (h : gV a v) : (bif isJ a then 2 else 1) = v.category := by
  cases hj : isJ a with
  | true => rw [cat_J h hj]; rfl
  | false => rw [cat_of h hj]; rfl
theorem acs_ok : ∀ {as : List aV} {st : List Value}, gSt as st → acs as = (st.map (fun v => v.category)).sum := by
  intro as
  induction as with
  | nil =>
    intro st h
    cases st with
    | nil => rfl
    | cons _ _ => exact h.elim
  | cons a r ih =>
    intro st h
    obtain ⟨w, s, rfl, hw, hr⟩ := g1 h
    show Nat.add (bif isJ a then 2 else 1) (acs r) = _
    rw [ih hr, gV_cat hw]
    rfl
theorem alv_ge : ∀ {av : List aV} {j : Nat} {al : List (Nat × aV)}, alv av j = some al → ∀ k a, (k, a) ∈ al → j ≤ k := by
  intro av
  induction av with
  | nil =>
    intro j al h k a hm
    cases (Option.some.inj (show some [] = some al from h) : [] = al)
    cases hm
  | cons v r ih =>
    intro j al h k a hm
    replace h : frcN (bif isJ v then Nat.add j 2 else Nat.add j 1) (fun j1 => Option.casesOn (motive := fun _ => Option (List (Nat × aV))) (alv r j1) none (fun t => some ((j, v) :: t))) = some al := h
    rw [frcN_eq] at h
    obtain ⟨t, h1, h2⟩ := ocase h
    cases h2
    rcases List.mem_cons.mp hm with z | z
    · cases z; exact Nat.le_refl _
    · have h3 := ih h1 k a z
      have h4 : j ≤ (bif isJ v then Nat.add j 2 else Nat.add j 1) := by
        cases isJ v with
        | true => exact Nat.le_add_right j 2
        | false => exact Nat.le_add_right j 1
      exact Nat.le_trans h4 h3
theorem alv_ok : ∀ {av : List aV} {j : Nat} {al : List (Nat × aV)}, alv av j = some al → ∀ {vs : List Value}, gSt av vs → gL al (lv_args j vs) := by
  intro av
  induction av with
  | nil =>
    intro j al h vs hs k a hm
    cases (Option.some.inj (show some [] = some al from h) : [] = al)
    cases hm
  | cons v r ih =>
    intro j al h vs hs
    obtain ⟨w, s, rfl, hw, hr⟩ := g1 hs
    replace h : frcN (bif isJ v then Nat.add j 2 else Nat.add j 1) (fun j1 => Option.casesOn (motive := fun _ => Option (List (Nat × aV))) (alv r j1) none (fun t => some ((j, v) :: t))) = some al := h
    rw [frcN_eq] at h
    obtain ⟨t, h1, h2⟩ := ocase h
    cases h2
    have e : (bif isJ v then Nat.add j 2 else Nat.add j 1) = if w.category = 2 then j + 2 else j + 1 := by
      cases hj : isJ v with
      | true => rw [cat_J hw hj]; rfl
      | false => rw [cat_of hw hj]; rfl
    have hlt : j < (bif isJ v then Nat.add j 2 else Nat.add j 1) := by
      cases isJ v with
      | true => exact Nat.lt_add_of_pos_right (by decide)
      | false => exact Nat.lt_add_of_pos_right (by decide)
    intro k a hm
    show ∃ x, lgt ((j, w) :: lv_args (if w.category = 2 then j + 2 else j + 1) s) k = some x ∧ gV a x
    rcases List.mem_cons.mp hm with z | z
    · cases z
      refine ⟨w, ?_, hw⟩
      unfold lgt
      rw [Nat.beq_refl]
      rfl
    · have hge := alv_ge h1 k a z
      obtain ⟨x, q1, q2⟩ := ih h1 hr k a z
      refine ⟨x, ?_, q2⟩
      unfold lgt
      rw [beq_ne (show j ≠ k by omega)]
      rw [e] at q1
      exact q1
theorem kn_a {k : Nat} {x : Int32} (h : gI (.inl (.ofNat k)) x) : ¬ x < 0 ∧ x.toNatClampNeg = k := by
  have h : x.toInt = Int.ofNat k := h
  refine ⟨?_, ?_⟩
  · rw [Int32.lt_iff_toInt_lt, h]
    exact fun z => absurd z (by simp)
  · show x.toInt.toNat = k
    rw [h]
    rfl
theorem lkR_eq {pc : Nat} : ∀ {l : List (Nat × Instr)}, lkR l pc = lk l pc := by
  intro l
  induction l with
  | nil => rfl
  | cons q t ih =>
    obtain ⟨k, i⟩ := q
    show (bif Nat.beq k pc then some i else lkR t pc) = lk ((k, i) :: t) pc
    rw [ih]
    rfl
section AR
variable {lay : Nat → Nat × Nat} {fL : Nat → Option (Nat × Nat × Bool)} {cL : Nat → Option Value} {kL : Nat → Option (Nat × mT × Nat)} {nL : Nat} {ret : Option FieldType} {call : cal} {code : List (Nat × Instr)} {F pc : Nat} {lv : List (Nat × Value)} {st : List Value} {S S1 : sS} {ix na : Nat} {md : mT}
theorem run_other {i : Instr} (hi : lk code pc = some i) (hn : isC i = false) {pc1 : Nat} {lv1 : List (Nat × Value)} {st1 : List Value} (hs : stp lay fL cL nL i pc lv st S = some (pc1, lv1, st1, S1)) : run lay fL cL kL nL ret call code (F + 1) pc lv st S = run lay fL cL kL nL ret call code F pc1 lv1 st1 S1 := by
  conv => lhs; unfold run
  rw [hi]
  dsimp only
  split
  · exact nomatch (show true = false from hn)
  · exact nomatch (show true = false from hn)
  · exact nomatch (show true = false from hn)
  · exact nomatch (show true = false from hn)
  · exact nomatch (show true = false from hn)
  · exact nomatch (show true = false from hn)
  · rw [hs]
def rcV (r : Option Value) (st : List Value) : List Value := match r with
  | some v => v :: st
  | none => st
theorem run_V0 {r : Option Value} (hi : lk code pc = some (.invokevirtual ix)) (hk : kL ix = some (0, md, na)) (hc : cOk lay md.2.2.2.2.1 na st = true) (he : call md (st.take (na + 1)).reverse S = some (r, S1)) : run lay fL cL kL nL ret call code (F + 1) pc lv st S = run lay fL cL kL nL ret call code F (pc + 3) lv (rcV r (st.drop (na + 1))) S1 := by
  conv => lhs; unfold run
  rw [hi]
  dsimp only
  rw [hk]
  change (bif cOk lay md.2.2.2.2.1 na st then (match (generalizing := false) call md (st.take (na + 1)).reverse S with | some (some v, S1) => run lay fL cL kL nL ret call code F (pc + 3) lv (v :: st.drop (na + 1)) S1 | some (none, S1) => run lay fL cL kL nL ret call code F (pc + 3) lv (st.drop (na + 1)) S1 | none => none) else none) = _
  rw [hc, he]
  cases r <;> rfl
theorem run_V4 {r : Option Value} (hi : lk code pc = some (.invokevirtual ix)) (hk : kL ix = some (4, md, na)) (hc : cOkT na st = true) (he : call md (st.take (na + 1)).reverse S = some (r, S1)) : run lay fL cL kL nL ret call code (F + 1) pc lv st S = run lay fL cL kL nL ret call code F (pc + 3) lv (rcV r (st.drop (na + 1))) S1 := by
  conv => lhs; unfold run
  rw [hi]
  dsimp only
  rw [hk]
  change (bif cOkT na st then (match (generalizing := false) call md (st.take (na + 1)).reverse S with | some (some v, S1) => run lay fL cL kL nL ret call code F (pc + 3) lv (v :: st.drop (na + 1)) S1 | some (none, S1) => run lay fL cL kL nL ret call code F (pc + 3) lv (st.drop (na + 1)) S1 | none => none) else none) = _
  rw [hc, he]
  cases r <;> rfl
theorem run_S1 {r : Option Value} (hi : lk code pc = some (.invokestatic ix)) (hk : kL ix = some (1, md, na)) (hc : cOkS na st = true) (he : call md (st.take na).reverse S = some (r, S1)) : run lay fL cL kL nL ret call code (F + 1) pc lv st S = run lay fL cL kL nL ret call code F (pc + 3) lv (rcV r (st.drop na)) S1 := by
  conv => lhs; unfold run
  rw [hi]
  dsimp only
  rw [hk]
  change (bif cOkS na st then (match (generalizing := false) call md (st.take na).reverse S with | some (some v, S1) => run lay fL cL kL nL ret call code F (pc + 3) lv (v :: st.drop na) S1 | some (none, S1) => run lay fL cL kL nL ret call code F (pc + 3) lv (st.drop na) S1 | none => none) else none) = _
  rw [hc, he]
  cases r <;> rfl
theorem run_S3 {r : Option Value} (hi : lk code pc = some (.invokestatic ix)) (hk : kL ix = some (3, md, na)) (hc : cOkS na st = true) (he : call md (st.take na).reverse S = some (r, S1)) : run lay fL cL kL nL ret call code (F + 1) pc lv st S = run lay fL cL kL nL ret call code F (pc + 3) lv (rcV r (st.drop na)) S1 := by
  conv => lhs; unfold run
  rw [hi]
  dsimp only
  rw [hk]
  change (bif cOkS na st then (match (generalizing := false) call md (st.take na).reverse S with | some (some v, S1) => run lay fL cL kL nL ret call code F (pc + 3) lv (v :: st.drop na) S1 | some (none, S1) => run lay fL cL kL nL ret call code F (pc + 3) lv (st.drop na) S1 | none => none) else none) = _
  rw [hc, he]
  cases r <;> rfl
theorem run_cp {n dp sp : Int32} {a b : Nat} {r : List Value} (hi : lk code pc = some (.invokestatic ix)) (hk : kL ix = some (9, md, na)) (hc : Nat.ble (r.map (fun v => v.category)).sum 8 = true) (ha : acp lay S a sp b dp n = some S1) : run lay fL cL kL nL ret call code (F + 1) pc lv (.int n :: .int dp :: .ref b :: .int sp :: .ref a :: r) S = run lay fL cL kL nL ret call code F (pc + 3) lv r S1 := by
  conv => lhs; unfold run
  rw [hi]
  dsimp only
  rw [hk]
  change (bif Nat.ble (r.map (fun v => v.category)).sum 8 then (match (generalizing := false) acp lay S a sp b dp n with | some S1 => run lay fL cL kL nL ret call code F (pc + 3) lv r S1 | none => none) else none) = _
  rw [hc, ha]
  rfl
theorem cpy0 {α : Type} {f g : Nat → α} {s d : Nat} : va_cpy f g s d 0 = g := by
  funext i
  unfold va_cpy
  exact if_neg (by omega)
theorem acp0 {a b : Nat} {sp dp n : Int32} (hn : n.toNatClampNeg = 0) (h0 : ¬ n < 0) (h1 : ¬ sp < 0) (h2 : ¬ dp < 0) (h3 : sp.toNatClampNeg ≤ (lay a).2) (h4 : dp.toNatClampNeg ≤ (lay b).2) (ht : ((Nat.beq (lay a).1 1 && Nat.beq (lay b).1 1) || ((Nat.beq (lay a).1 2 && Nat.beq (lay b).1 2) || (Nat.beq (lay a).1 3 && Nat.beq (lay b).1 3))) = true) : acp lay S a sp b dp n = some S := by
  unfold acp
  rw [hn, cpy0, cpy0]
  have e1 : va_up S.1 b (S.1 b) = S.1 := by
    funext k
    by_cases e : k = b
    · rw [e, va_up_self]
    · rw [va_up_ne _ _ e]
  have e2 : va_up S.2.1 b (S.2.1 b) = S.2.1 := by
    funext k
    by_cases e : k = b
    · rw [e, va_up_self]
    · rw [va_up_ne _ _ e]
  rw [e1, e2]
  have c1 : ((decide (¬ sp < 0) && (decide (¬ dp < 0) && decide (¬ n < 0))) && (Nat.ble (sp.toNatClampNeg + 0) (lay a).2 && Nat.ble (dp.toNatClampNeg + 0) (lay b).2)) = true := by
    rw [decide_eq_true h0, decide_eq_true h1, decide_eq_true h2, Nat.add_zero, Nat.add_zero, Nat.ble_eq_true_of_le h3, Nat.ble_eq_true_of_le h4]
    rfl
  rw [c1]
  cases t1 : (Nat.beq (lay a).1 1 && Nat.beq (lay b).1 1) with
  | true => rfl
  | false =>
    rw [t1] at ht
    cases t2 : (Nat.beq (lay a).1 2 && Nat.beq (lay b).1 2) with
    | true => rfl
    | false =>
      rw [t2] at ht
      have ht : (Nat.beq (lay a).1 3 && Nat.beq (lay b).1 3) = true := ht
      rw [ht]
      rfl
theorem run_max {x y : Int32} {r : List Value} (hi : lk code pc = some (.invokestatic ix)) (hk : kL ix = some (10, md, na)) (hc : Nat.ble (r.map (fun v => v.category)).sum 8 = true) : run lay fL cL kL nL ret call code (F + 1) pc lv (.int y :: .int x :: r) S = run lay fL cL kL nL ret call code F (pc + 3) lv (.int (if x < y then y else x) :: r) S := by
  conv => lhs; unfold run
  rw [hi]
  dsimp only
  rw [hk]
  (try dsimp only)
  rw [hc]
  rfl
theorem run_min {x y : Int32} {r : List Value} (hi : lk code pc = some (.invokestatic ix)) (hk : kL ix = some (11, md, na)) (hc : Nat.ble (r.map (fun v => v.category)).sum 8 = true) : run lay fL cL kL nL ret call code (F + 1) pc lv (.int y :: .int x :: r) S = run lay fL cL kL nL ret call code F (pc + 3) lv (.int (if y < x then y else x) :: r) S := by
  conv => lhs; unfold run
  rw [hi]
  dsimp only
  rw [hk]
  (try dsimp only)
  rw [hc]
  rfl
theorem run_abs {x : Int32} {r : List Value} (hi : lk code pc = some (.invokestatic ix)) (hk : kL ix = some (12, md, na)) (hc : Nat.ble (r.map (fun v => v.category)).sum 8 = true) : run lay fL cL kL nL ret call code (F + 1) pc lv (.int x :: r) S = run lay fL cL kL nL ret call code F (pc + 3) lv (.int (if 0 ≤ x then x else 0 - x) :: r) S := by
  conv => lhs; unfold run
  rw [hi]
  dsimp only
  rw [hk]
  (try dsimp only)
  rw [hc]
  rfl
theorem run_ir {v : Int32} (hi : lk code pc = some .ireturn) (hc : retI ret v = true) : run lay fL cL kL nL ret call code (F + 1) pc lv [.int v] S = some (some (.int v), S) := by
  conv => lhs; unfold run
  rw [hi]
  dsimp only
  rw [hc]
  rfl
theorem run_lr {v : Int64} (hi : lk code pc = some .lreturn) (hc : ret = some .long) : run lay fL cL kL nL ret call code (F + 1) pc lv [.long v] S = some (some (.long v), S) := by
  subst hc
  conv => lhs; unfold run
  rw [hi]
theorem run_ar {v : Value} (hi : lk code pc = some .areturn) (hc : retA ret v = true) : run lay fL cL kL nL ret call code (F + 1) pc lv [v] S = some (some v, S) := by
  conv => lhs; unfold run
  rw [hi]
  dsimp only
  rw [hc]
  rfl
theorem run_vr (hi : lk code pc = some .return_) (hc : ret = none) : run lay fL cL kL nL ret call code (F + 1) pc lv [] S = some (none, S) := by
  subst hc
  conv => lhs; unfold run
  rw [hi]
theorem gO_cons {ra : Option aV} {rc : Option Value} (h : gO ra rc) {r : List aV} {s : List Value} (hr : gSt r s) : gSt (match (generalizing := false) ra with | some v => v :: r | none => r) (rcV rc s) := by
  cases ra with
  | none => cases rc with
    | none => exact hr
    | some _ => exact h.elim
  | some a => cases rc with
    | none => exact h.elim
    | some v => exact ⟨h, hr⟩
/-- what a call must keep -/
def gCal (ac : acal) (c : cal) : Prop := ∀ md av T r T1, ac md av T = some (r, T1) → ∀ vs S, gSt av vs → gS T S → ∃ r1 S1, c md vs S = some (r1, S1) ∧ gO r r1 ∧ gS T1 S1
theorem adsp_call {call : acal} {ih : Nat → List (Nat × aV) → List aV → aT → Option (Option aV × aT)} {kd pc : Nat} {al : List (Nat × aV)} {as : List aV} {T T0 : aT} {r0 : Option aV} (h : adsp finR lay ret call ih (some (.inr (.inl (kd, md, na)))) pc al as T = some (r0, T0)) : ∃ av r ra T1, spl (bif Nat.beq kd 0 || Nat.beq kd 4 then Nat.succ na else na) [] as = some (av, r) ∧ acO lay kd md.2.2.2.2.1 av r = true ∧ call md av T = some (ra, T1) ∧ ih (pc + 3) al (match (generalizing := false) ra with | some v => v :: r | none => r) T1 = some (r0, T0) := by
  unfold adsp at h
  dsimp only at h
  split at h
  · next av r hsp =>
    obtain ⟨hc, h⟩ := bif_s h
    split at h
    · next v T1 he =>
      rw [frcN_eq] at h
      exact ⟨av, r, some v, T1, hsp, hc, he, h⟩
    · next T1 he =>
      rw [frcN_eq] at h
      exact ⟨av, r, none, T1, hsp, hc, he, h⟩
    · cases h
  · cases h
theorem acO_0 {ci : Nat} {as av r : List aV} (hsp : spl (Nat.succ na) [] as = some (av, r)) (hs : gSt as st) (h : acO lay 0 ci av r = true) : cOk lay ci na st = true := by
  obtain ⟨q1, q2, q3⟩ := spl_ok _ _ _ _ _ hsp st [] hs trivial
  rw [List.append_nil] at q3
  unfold acO at h
  rw [Bool.and_eq_true] at h
  obtain ⟨h1, h2⟩ := h
  rw [acs_ok q2] at h1
  replace h2 : (match (generalizing := false) av with
    | .inr (.inr (some k)) :: _ => layIs lay k 0 ci
    | _ => false) = true := h2
  split at h2
  · next k t =>
    obtain ⟨w, s, e, hw, hr⟩ := g1 q3
    replace hw : w = .ref k := hw
    unfold cOk
    rw [Bool.and_eq_true, Bool.and_eq_true]
    refine ⟨⟨Nat.ble_eq_true_of_le q1, h1⟩, ?_⟩
    rw [e, hw]
    exact h2
  · cases h2
theorem acO_4 {ci : Nat} {as av r : List aV} (hsp : spl (Nat.succ na) [] as = some (av, r)) (hs : gSt as st) (h : acO lay 4 ci av r = true) : cOkT na st = true := by
  obtain ⟨q1, q2, q3⟩ := spl_ok _ _ _ _ _ hsp st [] hs trivial
  rw [List.append_nil] at q3
  unfold acO at h
  rw [Bool.and_eq_true] at h
  obtain ⟨h1, h2⟩ := h
  rw [acs_ok q2] at h1
  replace h2 : (match (generalizing := false) av with
    | .inr (.inr (some k)) :: _ => Nat.ble SB k && (strT[k - SB]?).isSome
    | _ => false) = true := h2
  split at h2
  · next k t =>
    obtain ⟨w, s, e, hw, hr⟩ := g1 q3
    replace hw : w = .ref k := hw
    unfold cOkT
    rw [Bool.and_eq_true, Bool.and_eq_true]
    refine ⟨⟨Nat.ble_eq_true_of_le q1, h1⟩, ?_⟩
    rw [e, hw]
    exact h2
  · cases h2
theorem acO_S {kd ci : Nat} {as av r : List aV} (hsp : spl na [] as = some (av, r)) (hs : gSt as st) (h : acO lay kd ci av r = true) : cOkS na st = true := by
  obtain ⟨q1, q2, q3⟩ := spl_ok _ _ _ _ _ hsp st [] hs trivial
  unfold acO at h
  rw [Bool.and_eq_true] at h
  obtain ⟨h1, h2⟩ := h
  rw [acs_ok q2] at h1
  unfold cOkS
  rw [Bool.and_eq_true]
  exact ⟨Nat.ble_eq_true_of_le q1, h1⟩
theorem retI_ok {a : aI} {x : Int32} (hx : gI a x) (h : retIA ret a = true) : retI ret x = true := by
  cases a with
  | inl z =>
    replace h : retI ret (Int32.ofInt z) = true := h
    rw [gI_kn hx] at h
    exact h
  | inr q =>
    unfold retIA at h
    dsimp only at h
    split at h
    · rfl
    · cases h
theorem arun_ok {acall : acal} (hcall : gCal acall call) : ∀ (F pc : Nat) (al : List (Nat × aV)) (as : List aV) (T : aT) (r0 : Option aV) (T0 : aT), arun lay fL cL kL nL ret acall code F pc al as T = some (r0, T0) → ∀ (lv : List (Nat × Value)) (st : List Value) (S : sS), gL al lv → gSt as st → gS T S → ∃ r1 S1, run lay fL cL kL nL ret call code F pc lv st S = some (r1, S1) ∧ gO r0 r1 ∧ gS T0 S1 := by
  intro F
  induction F with
  | zero => intro pc al as T r0 T0 h; exact nomatch (show (none : Option (Option aV × aT)) = some _ from h)
  | succ F ih =>
    intro pc al as T r0 T0 h lv st S hl hs hS
    replace h : adsp finR lay ret acall (arun lay fL cL kL nL ret acall code F) (aop lay fL cL kL nL code pc) pc al as T = some (r0, T0) := h
    cases hi : lk code pc with
    | none =>
      have e : aop lay fL cL kL nL code pc = none := by unfold aop; rw [lkR_eq, hi]
      rw [e] at h
      exact nomatch (show (none : Option (Option aV × aT)) = some _ from h)
    | some i =>
      have e : aop lay fL cL kL nL code pc = bif isC i then aopC kL i else (match (generalizing := false) astp lay fL cL nL i with | some f => some (.inl f) | none => none) := by unfold aop; rw [lkR_eq, hi]
      rw [e] at h
      cases hC : isC i with
      | false =>
        rw [hC] at h
        replace h : adsp finR lay ret acall (arun lay fL cL kL nL ret acall code F) (match (generalizing := false) astp lay fL cL nL i with | some f => some (.inl f) | none => none) pc al as T = some (r0, T0) := h
        cases hf : astp lay fL cL nL i with
        | none => rw [hf] at h; exact nomatch (show (none : Option (Option aV × aT)) = some _ from h)
        | some f =>
          rw [hf] at h
          unfold adsp at h
          dsimp only at h
          split at h
          · next pc1 al1 as1 T1 hstep =>
            obtain ⟨lv1, st1, S1, q1, q2, q3, q4⟩ := astp_ok hf hl hs hS hstep
            rw [run_other hi hC q1]
            exact ih _ _ _ _ _ _ h _ _ _ q2 q3 q4
          · cases h
      | true =>
        rw [hC] at h
        replace h : adsp finR lay ret acall (arun lay fL cL kL nL ret acall code F) (aopC kL i) pc al as T = some (r0, T0) := h
        unfold aopC at h
        split at h
        · next ix =>
          split at h
          · next md na hk =>
            obtain ⟨av, r, ra, T1, h1, h2, h3, h4⟩ := adsp_call h
            obtain ⟨q1, q2, q3⟩ := spl_ok _ _ _ _ _ h1 st [] hs trivial
            rw [List.append_nil] at q3
            obtain ⟨rc, S1, g1', g2', g3'⟩ := hcall _ _ _ _ _ h3 _ _ q3 hS
            rw [run_V0 hi hk (acO_0 h1 hs h2) g1']
            exact ih _ _ _ _ _ _ h4 _ _ _ hl (gO_cons g2' q2) g3'
          · next md na hk =>
            obtain ⟨av, r, ra, T1, h1, h2, h3, h4⟩ := adsp_call h
            obtain ⟨q1, q2, q3⟩ := spl_ok _ _ _ _ _ h1 st [] hs trivial
            rw [List.append_nil] at q3
            obtain ⟨rc, S1, g1', g2', g3'⟩ := hcall _ _ _ _ _ h3 _ _ q3 hS
            rw [run_V4 hi hk (acO_4 h1 hs h2) g1']
            exact ih _ _ _ _ _ _ h4 _ _ _ hl (gO_cons g2' q2) g3'
          · exact nomatch (show (none : Option (Option aV × aT)) = some _ from h)
        · next ix =>
          split at h
          · next md na hk =>
            obtain ⟨av, r, ra, T1, h1, h2, h3, h4⟩ := adsp_call h
            obtain ⟨q1, q2, q3⟩ := spl_ok _ _ _ _ _ h1 st [] hs trivial
            rw [List.append_nil] at q3
            obtain ⟨rc, S1, g1', g2', g3'⟩ := hcall _ _ _ _ _ h3 _ _ q3 hS
            rw [run_S1 hi hk (acO_S h1 hs h2) g1']
            exact ih _ _ _ _ _ _ h4 _ _ _ hl (gO_cons g2' q2) g3'
          · next md na hk =>
            obtain ⟨av, r, ra, T1, h1, h2, h3, h4⟩ := adsp_call h
            obtain ⟨q1, q2, q3⟩ := spl_ok _ _ _ _ _ h1 st [] hs trivial
            rw [List.append_nil] at q3
            obtain ⟨rc, S1, g1', g2', g3'⟩ := hcall _ _ _ _ _ h3 _ _ q3 hS
            rw [run_S3 hi hk (acO_S h1 hs h2) g1']
            exact ih _ _ _ _ _ _ h4 _ _ _ hl (gO_cons g2' q2) g3'
          · next md na hk =>
            replace h : (match (generalizing := false) acpy lay as with | some r => frcN (Nat.add pc 3) (fun pc => arun lay fL cL kL nL ret acall code F pc al r T) | none => none) = some (r0, T0) := h
            split at h
            · next r hm =>
              rw [frcN_eq] at h
              unfold acpy at hm
              split at hm
              · next n dp b sp a r' =>
                obtain ⟨hb, hm⟩ := bif_s hm
                cases hm
                rw [Bool.and_eq_true, Bool.and_eq_true, Bool.and_eq_true, Bool.and_eq_true] at hb
                obtain ⟨⟨b1, b2, b3⟩, b4, b5⟩ := hb
                obtain ⟨vn, s1, rfl, hn, hr1⟩ := g1i hs
                obtain ⟨vd, s2, rfl, hd, hr2⟩ := g1i hr1
                obtain ⟨s3, rfl, hr3⟩ := g1r hr2
                obtain ⟨vs, s4, rfl, hp, hr4⟩ := g1i hr3
                obtain ⟨s5, rfl, hr5⟩ := g1r hr4
                obtain ⟨n1, n2⟩ := kn_a hn
                obtain ⟨d1, d2⟩ := kn_a hd
                obtain ⟨p1, p2⟩ := kn_a hp
                rw [acs_ok hr5] at b5
                rw [run_cp hi hk b5 (acp0 (n2.trans (Nat.eq_of_beq_eq_true b1)) n1 p1 d1 (by rw [p2]; exact Nat.le_of_ble_eq_true b2) (by rw [d2]; exact Nat.le_of_ble_eq_true b3) b4)]
                exact ih _ _ _ _ _ _ h _ _ _ hl hr5 hS
              · cases hm
            · cases h
          · next md na hk =>
            replace h : (match (generalizing := false) amth 10 as with | some (a, r) => frcA a (fun a => frcN (Nat.add pc 3) (fun pc => arun lay fL cL kL nL ret acall code F pc al (.inl a :: r) T)) | none => none) = some (r0, T0) := h
            split at h
            · next a r hm =>
              rw [frcA_eq, frcN_eq] at h
              unfold amth at hm
              replace hm : (match (generalizing := false) as with | .inl b :: .inl a :: r => bif Nat.ble (acs r) 8 then some (bin (fun x y => if x < y then y else x) a b, r) else none | _ => none) = some (a, r) := hm
              split at hm
              · next b a' r' =>
                obtain ⟨hb, hm⟩ := bif_s hm
                cases hm
                obtain ⟨y, x, s, rfl, hy, hx, hr⟩ := g2i hs
                rw [acs_ok hr] at hb
                rw [run_max hi hk hb]
                exact ih _ _ _ _ _ _ h _ _ _ hl (gcons ⟨_, rfl, bin_ok (f := fun x y => if x < y then y else x) hx hy⟩ hr) hS
              · cases hm
            · cases h
          · next md na hk =>
            replace h : (match (generalizing := false) amth 11 as with | some (a, r) => frcA a (fun a => frcN (Nat.add pc 3) (fun pc => arun lay fL cL kL nL ret acall code F pc al (.inl a :: r) T)) | none => none) = some (r0, T0) := h
            split at h
            · next a r hm =>
              rw [frcA_eq, frcN_eq] at h
              unfold amth at hm
              replace hm : (match (generalizing := false) as with | .inl b :: .inl a :: r => bif Nat.ble (acs r) 8 then some (bin (fun x y => if y < x then y else x) a b, r) else none | _ => none) = some (a, r) := hm
              split at hm
              · next b a' r' =>
                obtain ⟨hb, hm⟩ := bif_s hm
                cases hm
                obtain ⟨y, x, s, rfl, hy, hx, hr⟩ := g2i hs
                rw [acs_ok hr] at hb
                rw [run_min hi hk hb]
                exact ih _ _ _ _ _ _ h _ _ _ hl (gcons ⟨_, rfl, bin_ok (f := fun x y => if y < x then y else x) hx hy⟩ hr) hS
              · cases hm
            · cases h
          · next md na hk =>
            replace h : (match (generalizing := false) amth 12 as with | some (a, r) => frcA a (fun a => frcN (Nat.add pc 3) (fun pc => arun lay fL cL kL nL ret acall code F pc al (.inl a :: r) T)) | none => none) = some (r0, T0) := h
            split at h
            · next a r hm =>
              rw [frcA_eq, frcN_eq] at h
              unfold amth at hm
              replace hm : (match (generalizing := false) as with | .inl a :: r => bif Nat.ble (acs r) 8 then some (un (fun x => if 0 ≤ x then x else 0 - x) a, r) else none | _ => none) = some (a, r) := hm
              split at hm
              · next a' r' =>
                obtain ⟨hb, hm⟩ := bif_s hm
                cases hm
                obtain ⟨x, s, rfl, hx, hr⟩ := g1i hs
                rw [acs_ok hr] at hb
                rw [run_abs hi hk hb]
                exact ih _ _ _ _ _ _ h _ _ _ hl (gcons ⟨_, rfl, un_ok (f := fun x => if 0 ≤ x then x else 0 - x) hx⟩ hr) hS
              · cases hm
            · cases h
          · exact nomatch (show (none : Option (Option aV × aT)) = some _ from h)
        · replace h : (match (generalizing := false) as with | [.inl a] => bif retIA ret a then some (some (.inl a), T) else none | _ => none) = some (r0, T0) := h
          split at h
          · next a =>
            obtain ⟨hb, h⟩ := bif_s h
            cases h
            obtain ⟨x, s, rfl, hx, hr⟩ := g1i hs
            cases s with
            | nil => exact ⟨_, _, run_ir hi (retI_ok hx hb), ⟨x, rfl, hx⟩, hS⟩
            | cons _ _ => exact hr.elim
          · cases h
        · replace h : (match (generalizing := false) as with | [.inr (.inl a)] => (match (generalizing := false) ret with | some .long => some (some (.inr (.inl a)), T) | _ => none) | _ => none) = some (r0, T0) := h
          split at h
          · next a =>
            split at h
            · next =>
              cases h
              obtain ⟨x, s, rfl, hx, hr⟩ := g1j hs
              cases s with
              | nil => exact ⟨_, _, run_lr hi rfl, ⟨x, rfl, hx⟩, hS⟩
              | cons _ _ => exact hr.elim
            · cases h
          · cases h
        · replace h : (match (generalizing := false) as with | [.inr (.inr a)] => bif retA ret (rv a) then some (some (.inr (.inr a)), T) else none | _ => none) = some (r0, T0) := h
          split at h
          · next a =>
            obtain ⟨hb, h⟩ := bif_s h
            cases h
            obtain ⟨x, s, rfl, hx, hr⟩ := g1 hs
            replace hx : x = rv a := hx
            cases s with
            | nil => exact ⟨_, _, run_ar hi (hx ▸ hb), hx, hS⟩
            | cons _ _ => exact hr.elim
          · cases h
        · replace h : (match (generalizing := false) as with | [] => (match (generalizing := false) ret with | none => some (none, T) | _ => none) | _ => none) = some (r0, T0) := h
          split at h
          · split at h
            · cases h
              cases st with
              | nil => exact ⟨_, _, run_vr hi rfl, trivial, hS⟩
              | cons _ _ => exact hs.elim
            · cases h
          · cases h
        · exact nomatch (show (none : Option (Option aV × aT)) = some _ from h)
end AR
theorem aevd_ok {lay : Nat → Nat × Nat} {F : Nat} : ∀ d, gCal (aevd lay F d) (evd lay F d) := by
  intro d
  induction d with
  | zero => intro q av T r T1 h; exact nomatch (show (none : Option (Option aV × aT)) = some _ from h)
  | succ d ih =>
    intro q av T r T1 h vs S hv hS
    replace h : (bif Nat.beq q.2.2.2.2.1 99 then ackI av T else bif Nat.ble (acs av) q.2.2.1 then (match (generalizing := false) alv av 0 with
      | some al => arun lay (fLs q.2.2.2.2.1) (cLs q.2.2.2.2.1) (kLs q.2.2.2.2.1) q.2.2.1 q.2.2.2.1 (aevd lay F d) q.2.2.2.2.2 F 0 al [] T
      | none => none) else none) = some (r, T1) := h
    unfold evd
    cases h9 : Nat.beq q.2.2.2.2.1 99 with
    | true =>
      rw [h9] at h
      replace h : ackI av T = some (r, T1) := h
      show ∃ r1 S1, ckI vs S = some (r1, S1) ∧ gO r r1 ∧ gS T1 S1
      unfold ackI at h
      split at h
      · next x n =>
        obtain ⟨hb, h⟩ := bif_s h
        cases h
        rw [Bool.and_eq_true, decide_eq_true_eq, decide_eq_true_eq] at hb
        obtain ⟨x', s, rfl, hx, hr⟩ := g1i hv
        obtain ⟨n', s', rfl, hn, hr⟩ := g1i hr
        cases s' with
        | cons _ _ => exact hr.elim
        | nil =>
          replace hx : x'.toInt = x := hx
          replace hn : n'.toInt = n := hn
          refine ⟨none, S, ?_, trivial, hS⟩
          unfold ckI
          dsimp only
          rw [show (decide (¬ x' < 0) && decide (x' < n')) = true from by
            rw [Bool.and_eq_true, decide_eq_true_eq, decide_eq_true_eq, Int32.lt_iff_toInt_lt, Int32.lt_iff_toInt_lt, hx, hn]
            exact ⟨show ¬ x < 0 by omega, hb.2⟩]
          rfl
      · cases h
    | false =>
      rw [h9] at h
      obtain ⟨hw, h⟩ := bif_s (show (bif Nat.ble (acs av) q.2.2.1 then _ else none) = some _ from h)
      split at h
      · next al hal =>
        rw [acs_ok hv] at hw
        show ∃ r1 S1, (bif Nat.ble (wds vs) q.2.2.1 then run lay (fLs q.2.2.2.2.1) (cLs q.2.2.2.2.1) (kLs q.2.2.2.2.1) q.2.2.1 q.2.2.2.1 (evd lay F d) q.2.2.2.2.2 F 0 (lv_args 0 vs) [] S else none) = some (r1, S1) ∧ gO r r1 ∧ gS T1 S1
        rw [show Nat.ble (wds vs) q.2.2.1 = true from hw]
        exact arun_ok ih F 0 al [] T r T1 h _ _ _ (alv_ok hal hv) trivial hS
      · cases h


