/-! constructors and the law's body, with ranges -/
def isCA (i : Instr) : Bool := match i with
  | .invokespecial _ => true
  | .invokevirtual _ => true
  | .invokestatic _ => true
  | .ireturn => true
  | .return_ => true
  | _ => false
def aopCA (kL : Nat → Option (Nat × mT × Nat)) (kI : Nat → Option (Nat × mT × Nat)) (i : Instr) : Option aOA := match i with
  | .invokespecial ix => (match kI ix with
    | some (7, _, _) => some (.inr (.inr (.inr 7)))
    | some (5, md, na) => some (.inr (.inr (.inl (5, md, na))))
    | some (6, md, na) => some (.inr (.inr (.inl (5, md, na))))
    | _ => none)
  | .invokevirtual ix => (match kL ix with
    | some (0, md, na) => some (.inr (.inr (.inl (0, md, na))))
    | some (4, md, na) => some (.inr (.inr (.inl (4, md, na))))
    | _ => none)
  | .invokestatic ix => (match kL ix with
    | some (1, md, na) => some (.inr (.inr (.inl (1, md, na))))
    | some (3, md, na) => some (.inr (.inr (.inl (3, md, na))))
    | _ => none)
  | .ireturn => some (.inr (.inr (.inr 20)))
  | .return_ => some (.inr (.inr (.inr 23)))
  | _ => none
noncomputable def aopA (lay : Nat → Nat × Nat) (fL : Nat → Option (Nat × Nat × Bool)) (cL : Nat → Option Value) (kL : Nat → Option (Nat × mT × Nat)) (cC : Nat → Option Nat) (kI : Nat → Option (Nat × mT × Nat)) (ow nL : Nat) (sc : Bool) (L : Nat) (axs : List aI) (code : List (Nat × Instr)) (n pc : Nat) : Option aOA := match lkR code pc with
  | none => none
  | some i => bif isCA i then aopCA kL kI i else bif notA fL sc i then (match astp (layN lay n) fL cL nL i with
    | some f => some (.inl f)
    | none => none) else (match astA lay fL cC ow sc L axs i with
    | some f => some (.inr (.inl f))
    | none => none)
def finA (r : Option aV) (T : aT) (n ss : Nat) : Option (Option aV × aT × Nat × Nat) := some (r, T, n, ss)
noncomputable def adspA {β : Type} (fin : Option aV → aT → Nat → Nat → Option β) (lay : Nat → Nat × Nat) (ret : Option FieldType) (sc : Bool) (callN : Nat → acal) (callA : acalA) (ih : Nat → Nat → Nat → List (Nat × aV) → List aV → aT → Option β) (o : Option aOA) (n ss pc : Nat) (lv : List (Nat × aV)) (st : List aV) (T : aT) : Option β := match o with
  | none => none
  | some (.inl f) => (match f pc lv st T with
    | some (pc1, lv1, st1, T1) => ih n ss pc1 lv1 st1 T1
    | none => none)
  | some (.inr (.inl f)) => (match f n ss pc st T with
    | some (n1, ss1, pc1, st1, T1) => ih n1 ss1 pc1 lv st1 T1
    | none => none)
  | some (.inr (.inr (.inl (kd, md, na)))) => (match spl (bif Nat.beq kd 1 || Nat.beq kd 3 then na else Nat.succ na) [] st with
    | some (av, r) => bif Nat.beq kd 5 then (bif acO (layN lay n) 0 md.2.2.2.2.1 av r then (match callA md av T n ss with
      | some (none, T1, n1, ss1) => frcN (Nat.add pc 3) (fun pc => ih n1 ss1 pc lv r T1)
      | _ => none) else none) else bif acO (layN lay n) kd md.2.2.2.2.1 av r then (match callN n md av T with
      | some (some v, T1) => frcN (Nat.add pc 3) (fun pc => ih n ss pc lv (v :: r) T1)
      | some (none, T1) => frcN (Nat.add pc 3) (fun pc => ih n ss pc lv r T1)
      | none => none) else none
    | none => none)
  | some (.inr (.inr (.inr t))) => bif Nat.beq t 7 then (match st with
    | .inr (.inr (some _)) :: r => bif Nat.ble (acs r) 8 then frcN (Nat.add pc 3) (fun pc => ih n ss pc lv r T) else none
    | _ => none) else bif Nat.beq t 20 then (match st with
    | [.inl a] => bif sc then fin (some (.inl a)) T n ss else none
    | _ => none) else bif Nat.beq t 23 then (match st with
    | [] => (match ret with
      | none => fin none T n ss
      | _ => none)
    | _ => none) else none
noncomputable def arunA (lay : Nat → Nat × Nat) (fL : Nat → Option (Nat × Nat × Bool)) (cL : Nat → Option Value) (kL : Nat → Option (Nat × mT × Nat)) (cC : Nat → Option Nat) (kI : Nat → Option (Nat × mT × Nat)) (ow nL : Nat) (ret : Option FieldType) (sc : Bool) (L : Nat) (axs : List aI) (callN : Nat → acal) (callA : acalA) (code : List (Nat × Instr)) (F : Nat) : Nat → Nat → Nat → List (Nat × aV) → List aV → aT → Option (Option aV × aT × Nat × Nat) := Nat.rec (motive := fun _ => Nat → Nat → Nat → List (Nat × aV) → List aV → aT → Option (Option aV × aT × Nat × Nat)) (fun _ _ _ _ _ _ => none) (fun _ ih n ss pc lv st T => adspA finA lay ret sc callN callA ih (aopA lay fL cL kL cC kI ow nL sc L axs code n pc) n ss pc lv st T) F
noncomputable def aevA (lay : Nat → Nat × Nat) (F d : Nat) : acalA := Nat.rec (motive := fun _ => acalA) (fun _ _ _ _ _ => none) (fun d ih q av T n ss => bif Nat.ble (acs av) q.2.2.1 then (match alv av 0 with
  | some al => (match arunA lay (fLs q.2.2.2.2.1) (cLs q.2.2.2.2.1) (kLs q.2.2.2.2.1) (cCs q.2.2.2.2.1) (kIs q.2.2.2.2.1) q.2.2.2.2.1 q.2.2.1 none false 0 [] (fun n => aevd (layN lay n) F d) ih q.2.2.2.2.2 F n ss 0 al [] T with
    | some (r, T1, n1, ss1) => bif Nat.ble n n1 && (Nat.ble ss ss1 && Nat.ble n1 1900) then some (r, T1, n1, ss1) else none
    | none => none)
  | none => none) else none) d
def gCalA (ac : acalA) (c : calA) : Prop := ∀ md av T n ss r T1 n1 ss1, ac md av T n ss = some (r, T1, n1, ss1) → ∀ vs S, gSt av vs → gS T S → ∃ r1 S1, c md vs S n ss = some (r1, S1, n1, ss1) ∧ gO r r1 ∧ gS T1 S1
section AB
variable {lay : Nat → Nat × Nat} {fL : Nat → Option (Nat × Nat × Bool)} {cL : Nat → Option Value} {kL : Nat → Option (Nat × mT × Nat)} {cC : Nat → Option Nat} {kI : Nat → Option (Nat × mT × Nat)} {ow nL : Nat} {ret : Option FieldType} {sc : Bool} {L : Nat} {xs : Nat → Int32} {callN : Nat → cal} {callA : calA} {code : List (Nat × Instr)} {F n ss pc : Nat} {lv : List (Nat × Value)} {st : List Value} {S S1 : sS} {ix na : Nat} {md : mT}
theorem runA_A {i : Instr} (hi : lk code pc = some i) (hn : isCA i = false) {n1 ss1 pc1 : Nat} {st1 : List Value} (hs : stA lay fL cC ow sc L xs i n ss pc st S = some (n1, ss1, pc1, st1, S1)) : runA lay fL cL kL cC kI ow nL ret sc L xs callN callA code (F + 1) n ss pc lv st S = runA lay fL cL kL cC kI ow nL ret sc L xs callN callA code F n1 ss1 pc1 lv st1 S1 := by
  conv => lhs; unfold runA
  rw [hi]
  dsimp only
  split
  · exact nomatch (show true = false from hn)
  · exact nomatch (show true = false from hn)
  · exact nomatch (show true = false from hn)
  · exact nomatch (show true = false from hn)
  · exact nomatch (show true = false from hn)
  · rw [hs]
theorem runA_N {i : Instr} (hi : lk code pc = some i) (hn : isCA i = false) (h0 : stA lay fL cC ow sc L xs i n ss pc st S = none) {pc1 : Nat} {lv1 : List (Nat × Value)} {st1 : List Value} (hs : stp (layN lay n) fL cL nL i pc lv st S = some (pc1, lv1, st1, S1)) : runA lay fL cL kL cC kI ow nL ret sc L xs callN callA code (F + 1) n ss pc lv st S = runA lay fL cL kL cC kI ow nL ret sc L xs callN callA code F n ss pc1 lv1 st1 S1 := by
  conv => lhs; unfold runA
  rw [hi]
  dsimp only
  split
  · exact nomatch (show true = false from hn)
  · exact nomatch (show true = false from hn)
  · exact nomatch (show true = false from hn)
  · exact nomatch (show true = false from hn)
  · exact nomatch (show true = false from hn)
  · rw [h0]
    dsimp only
    rw [hs]
theorem runA_I7 {k : Nat} {r : List Value} {m0 : mT} {a0 : Nat} (hi : lk code pc = some (.invokespecial ix)) (hk : kI ix = some (7, m0, a0)) (hc : Nat.ble (r.map (fun v => v.category)).sum 8 = true) : runA lay fL cL kL cC kI ow nL ret sc L xs callN callA code (F + 1) n ss pc lv (.ref k :: r) S = runA lay fL cL kL cC kI ow nL ret sc L xs callN callA code F n ss (pc + 3) lv r S := by
  conv => lhs; unfold runA
  rw [hi]
  dsimp only
  rw [hk]
  change (bif Nat.ble (r.map (fun v => v.category)).sum 8 then runA lay fL cL kL cC kI ow nL ret sc L xs callN callA code F n ss (pc + 3) lv r S else none) = _
  rw [hc]
  rfl
theorem runA_I5 {n1 ss1 : Nat} (hi : lk code pc = some (.invokespecial ix)) (hk : kI ix = some (5, md, na) ∨ kI ix = some (6, md, na)) (hc : cOk (layN lay n) md.2.2.2.2.1 na st = true) (he : callA md (st.take (na + 1)).reverse S n ss = some (none, S1, n1, ss1)) : runA lay fL cL kL cC kI ow nL ret sc L xs callN callA code (F + 1) n ss pc lv st S = runA lay fL cL kL cC kI ow nL ret sc L xs callN callA code F n1 ss1 (pc + 3) lv (st.drop (na + 1)) S1 := by
  conv => lhs; unfold runA
  rw [hi]
  dsimp only
  rcases hk with hk | hk
  · rw [hk]
    change (bif cOk (layN lay n) md.2.2.2.2.1 na st then (match (generalizing := false) callA md (st.take (na + 1)).reverse S n ss with | some (none, S1, n1, ss1) => runA lay fL cL kL cC kI ow nL ret sc L xs callN callA code F n1 ss1 (pc + 3) lv (st.drop (na + 1)) S1 | _ => none) else none) = _
    rw [hc, he]
    rfl
  · rw [hk]
    change (bif cOk (layN lay n) md.2.2.2.2.1 na st then (match (generalizing := false) callA md (st.take (na + 1)).reverse S n ss with | some (none, S1, n1, ss1) => runA lay fL cL kL cC kI ow nL ret sc L xs callN callA code F n1 ss1 (pc + 3) lv (st.drop (na + 1)) S1 | _ => none) else none) = _
    rw [hc, he]
    rfl
theorem runA_V0 {r : Option Value} (hi : lk code pc = some (.invokevirtual ix)) (hk : kL ix = some (0, md, na)) (hc : cOk (layN lay n) md.2.2.2.2.1 na st = true) (he : callN n md (st.take (na + 1)).reverse S = some (r, S1)) : runA lay fL cL kL cC kI ow nL ret sc L xs callN callA code (F + 1) n ss pc lv st S = runA lay fL cL kL cC kI ow nL ret sc L xs callN callA code F n ss (pc + 3) lv (rcV r (st.drop (na + 1))) S1 := by
  conv => lhs; unfold runA
  rw [hi]
  dsimp only
  rw [hk]
  change (bif cOk (layN lay n) md.2.2.2.2.1 na st then (match (generalizing := false) callN n md (st.take (na + 1)).reverse S with | some (some v, S1) => runA lay fL cL kL cC kI ow nL ret sc L xs callN callA code F n ss (pc + 3) lv (v :: st.drop (na + 1)) S1 | some (none, S1) => runA lay fL cL kL cC kI ow nL ret sc L xs callN callA code F n ss (pc + 3) lv (st.drop (na + 1)) S1 | none => none) else none) = _
  rw [hc, he]
  cases r <;> rfl
theorem runA_V4 {r : Option Value} (hi : lk code pc = some (.invokevirtual ix)) (hk : kL ix = some (4, md, na)) (hc : cOkT na st = true) (he : callN n md (st.take (na + 1)).reverse S = some (r, S1)) : runA lay fL cL kL cC kI ow nL ret sc L xs callN callA code (F + 1) n ss pc lv st S = runA lay fL cL kL cC kI ow nL ret sc L xs callN callA code F n ss (pc + 3) lv (rcV r (st.drop (na + 1))) S1 := by
  conv => lhs; unfold runA
  rw [hi]
  dsimp only
  rw [hk]
  change (bif cOkT na st then (match (generalizing := false) callN n md (st.take (na + 1)).reverse S with | some (some v, S1) => runA lay fL cL kL cC kI ow nL ret sc L xs callN callA code F n ss (pc + 3) lv (v :: st.drop (na + 1)) S1 | some (none, S1) => runA lay fL cL kL cC kI ow nL ret sc L xs callN callA code F n ss (pc + 3) lv (st.drop (na + 1)) S1 | none => none) else none) = _
  rw [hc, he]
  cases r <;> rfl
theorem runA_S1 {r : Option Value} (hi : lk code pc = some (.invokestatic ix)) (hk : kL ix = some (1, md, na) ∨ kL ix = some (3, md, na)) (hc : cOkS na st = true) (he : callN n md (st.take na).reverse S = some (r, S1)) : runA lay fL cL kL cC kI ow nL ret sc L xs callN callA code (F + 1) n ss pc lv st S = runA lay fL cL kL cC kI ow nL ret sc L xs callN callA code F n ss (pc + 3) lv (rcV r (st.drop na)) S1 := by
  conv => lhs; unfold runA
  rw [hi]
  dsimp only
  rcases hk with hk | hk
  · rw [hk]
    change (bif cOkS na st then (match (generalizing := false) callN n md (st.take na).reverse S with | some (some v, S1) => runA lay fL cL kL cC kI ow nL ret sc L xs callN callA code F n ss (pc + 3) lv (v :: st.drop na) S1 | some (none, S1) => runA lay fL cL kL cC kI ow nL ret sc L xs callN callA code F n ss (pc + 3) lv (st.drop na) S1 | none => none) else none) = _
    rw [hc, he]
    cases r <;> rfl
  · rw [hk]
    change (bif cOkS na st then (match (generalizing := false) callN n md (st.take na).reverse S with | some (some v, S1) => runA lay fL cL kL cC kI ow nL ret sc L xs callN callA code F n ss (pc + 3) lv (v :: st.drop na) S1 | some (none, S1) => runA lay fL cL kL cC kI ow nL ret sc L xs callN callA code F n ss (pc + 3) lv (st.drop na) S1 | none => none) else none) = _
    rw [hc, he]
    cases r <;> rfl
theorem runA_ir {v : Int32} (hi : lk code pc = some .ireturn) (hc : sc = true) : runA lay fL cL kL cC kI ow nL ret sc L xs callN callA code (F + 1) n ss pc lv [.int v] S = some (some (.int v), S, n, ss) := by
  subst hc
  conv => lhs; unfold runA
  rw [hi]
  rfl
theorem runA_vr (hi : lk code pc = some .return_) (hc : ret = none) : runA lay fL cL kL cC kI ow nL ret sc L xs callN callA code (F + 1) n ss pc lv [] S = some (none, S, n, ss) := by
  subst hc
  conv => lhs; unfold runA
  rw [hi]
theorem adspA_call {callN : Nat → acal} {callA : acalA} {ih : Nat → Nat → Nat → List (Nat × aV) → List aV → aT → Option (Option aV × aT × Nat × Nat)} {kd pc : Nat} {al : List (Nat × aV)} {as : List aV} {T T0 : aT} {r0 : Option aV} {n0 ss0 : Nat} (h5 : Nat.beq kd 5 = false) (h : adspA finA lay ret sc callN callA ih (some (.inr (.inr (.inl (kd, md, na))))) n ss pc al as T = some (r0, T0, n0, ss0)) : ∃ av r ra T1, spl (bif Nat.beq kd 1 || Nat.beq kd 3 then na else Nat.succ na) [] as = some (av, r) ∧ acO (layN lay n) kd md.2.2.2.2.1 av r = true ∧ callN n md av T = some (ra, T1) ∧ ih n ss (pc + 3) al (match (generalizing := false) ra with | some v => v :: r | none => r) T1 = some (r0, T0, n0, ss0) := by
  unfold adspA at h
  dsimp only at h
  split at h
  · next av r hsp =>
    rw [h5] at h
    obtain ⟨hc, h⟩ := bif_s (show (bif acO (layN lay n) kd md.2.2.2.2.1 av r then _ else none) = some _ from h)
    split at h
    · next v T1 he =>
      rw [frcN_eq] at h
      exact ⟨av, r, some v, T1, hsp, hc, he, h⟩
    · next T1 he =>
      rw [frcN_eq] at h
      exact ⟨av, r, none, T1, hsp, hc, he, h⟩
    · cases h
  · cases h
theorem adspA_spec {callN : Nat → acal} {callA : acalA} {ih : Nat → Nat → Nat → List (Nat × aV) → List aV → aT → Option (Option aV × aT × Nat × Nat)} {pc : Nat} {al : List (Nat × aV)} {as : List aV} {T T0 : aT} {r0 : Option aV} {n0 ss0 : Nat} (h : adspA finA lay ret sc callN callA ih (some (.inr (.inr (.inl (5, md, na))))) n ss pc al as T = some (r0, T0, n0, ss0)) : ∃ av r T1 n1 ss1, spl (Nat.succ na) [] as = some (av, r) ∧ acO (layN lay n) 0 md.2.2.2.2.1 av r = true ∧ callA md av T n ss = some (none, T1, n1, ss1) ∧ ih n1 ss1 (pc + 3) al r T1 = some (r0, T0, n0, ss0) := by
  unfold adspA at h
  dsimp only at h
  split at h
  · next av r hsp =>
    obtain ⟨hc, h⟩ := bif_s (show (bif acO (layN lay n) 0 md.2.2.2.2.1 av r then (match (generalizing := false) callA md av T n ss with
      | some (none, T1, n1, ss1) => frcN (Nat.add pc 3) (fun pc => ih n1 ss1 pc al r T1)
      | _ => none) else none) = some _ from h)
    split at h
    · next T1 n1 ss1 he =>
      rw [frcN_eq] at h
      exact ⟨av, r, T1, n1, ss1, hsp, hc, he, h⟩
    · cases h
  · cases h
theorem arunA_ok {axs : List aI} (hx : ∀ i a, axs[i]? = some a → gI a (xs i)) {acN : Nat → acal} {acA : acalA} (hN : ∀ n, gCal (acN n) (callN n)) (hA : gCalA acA callA) : ∀ (F n ss pc : Nat) (al : List (Nat × aV)) (as : List aV) (T : aT) (r0 : Option aV) (T0 : aT) (n0 ss0 : Nat), arunA lay fL cL kL cC kI ow nL ret sc L axs acN acA code F n ss pc al as T = some (r0, T0, n0, ss0) → ∀ (lv : List (Nat × Value)) (st : List Value) (S : sS), gL al lv → gSt as st → gS T S → ∃ r1 S1, runA lay fL cL kL cC kI ow nL ret sc L xs callN callA code F n ss pc lv st S = some (r1, S1, n0, ss0) ∧ gO r0 r1 ∧ gS T0 S1 := by
  intro F
  induction F with
  | zero => intro n ss pc al as T r0 T0 n0 ss0 h; exact nomatch (show (none : Option (Option aV × aT × Nat × Nat)) = some _ from h)
  | succ F ih =>
    intro n ss pc al as T r0 T0 n0 ss0 h lv st S hl hs hS
    replace h : adspA finA lay ret sc acN acA (arunA lay fL cL kL cC kI ow nL ret sc L axs acN acA code F) (aopA lay fL cL kL cC kI ow nL sc L axs code n pc) n ss pc al as T = some (r0, T0, n0, ss0) := h
    cases hi : lk code pc with
    | none =>
      have e : aopA lay fL cL kL cC kI ow nL sc L axs code n pc = none := by unfold aopA; rw [lkR_eq, hi]
      rw [e] at h
      exact nomatch (show (none : Option (Option aV × aT × Nat × Nat)) = some _ from h)
    | some i =>
      have e : aopA lay fL cL kL cC kI ow nL sc L axs code n pc = bif isCA i then aopCA kL kI i else bif notA fL sc i then (match (generalizing := false) astp (layN lay n) fL cL nL i with | some f => some (.inl f) | none => none) else (match (generalizing := false) astA lay fL cC ow sc L axs i with | some f => some (.inr (.inl f)) | none => none) := by unfold aopA; rw [lkR_eq, hi]
      rw [e] at h
      cases hC : isCA i with
      | false =>
        rw [hC] at h
        cases hnA : notA fL sc i with
        | true =>
          rw [hnA] at h
          replace h : adspA finA lay ret sc acN acA (arunA lay fL cL kL cC kI ow nL ret sc L axs acN acA code F) (match (generalizing := false) astp (layN lay n) fL cL nL i with | some f => some (.inl f) | none => none) n ss pc al as T = some (r0, T0, n0, ss0) := h
          cases hf : astp (layN lay n) fL cL nL i with
          | none => rw [hf] at h; exact nomatch (show (none : Option (Option aV × aT × Nat × Nat)) = some _ from h)
          | some f =>
            rw [hf] at h
            unfold adspA at h
            dsimp only at h
            split at h
            · next pc1 al1 as1 T1 hstep =>
              obtain ⟨lv1, st1, S1, q1, q2, q3, q4⟩ := astp_ok hf hl hs hS hstep
              rw [runA_N hi hC (notA_ok hnA) q1]
              exact ih _ _ _ _ _ _ _ _ _ _ h _ _ _ q2 q3 q4
            · cases h
        | false =>
          rw [hnA] at h
          replace h : adspA finA lay ret sc acN acA (arunA lay fL cL kL cC kI ow nL ret sc L axs acN acA code F) (match (generalizing := false) astA lay fL cC ow sc L axs i with | some f => some (.inr (.inl f)) | none => none) n ss pc al as T = some (r0, T0, n0, ss0) := h
          cases hf : astA lay fL cC ow sc L axs i with
          | none => rw [hf] at h; exact nomatch (show (none : Option (Option aV × aT × Nat × Nat)) = some _ from h)
          | some f =>
            rw [hf] at h
            unfold adspA at h
            dsimp only at h
            split at h
            · next n1 ss1 pc1 as1 T1 hstep =>
              obtain ⟨st1, S1, q1, q3, q4⟩ := astA_ok hx hf hs hS hstep
              rw [runA_A hi hC q1]
              exact ih _ _ _ _ _ _ _ _ _ _ h _ _ _ hl q3 q4
            · cases h
      | true =>
        rw [hC] at h
        replace h : adspA finA lay ret sc acN acA (arunA lay fL cL kL cC kI ow nL ret sc L axs acN acA code F) (aopCA kL kI i) n ss pc al as T = some (r0, T0, n0, ss0) := h
        unfold aopCA at h
        split at h
        · next ix =>
          split at h
          · next hk =>
            replace h : (match (generalizing := false) as with | .inr (.inr (some _)) :: r => bif Nat.ble (acs r) 8 then frcN (Nat.add pc 3) (fun pc => arunA lay fL cL kL cC kI ow nL ret sc L axs acN acA code F n ss pc al r T) else none | _ => none) = some (r0, T0, n0, ss0) := h
            split at h
            · next k r =>
              obtain ⟨hb, h⟩ := bif_s h
              rw [frcN_eq] at h
              obtain ⟨s, rfl, hr⟩ := g1r hs
              rw [acs_ok hr] at hb
              rw [runA_I7 hi hk hb]
              exact ih _ _ _ _ _ _ _ _ _ _ h _ _ _ hl hr hS
            · cases h
          · next md na hk =>
            obtain ⟨av, r, T1, n1, ss1, h1, h2, h3, h4⟩ := adspA_spec h
            obtain ⟨q1, q2, q3⟩ := spl_ok _ _ _ _ _ h1 st [] hs trivial
            rw [List.append_nil] at q3
            obtain ⟨rc, S1, g1', g2', g3'⟩ := hA _ _ _ _ _ _ _ _ _ h3 _ _ q3 hS
            cases rc with
            | some _ => exact g2'.elim
            | none =>
              rw [runA_I5 hi (Or.inl hk) (acO_0 h1 hs h2) g1']
              exact ih _ _ _ _ _ _ _ _ _ _ h4 _ _ _ hl q2 g3'
          · next md na hk =>
            obtain ⟨av, r, T1, n1, ss1, h1, h2, h3, h4⟩ := adspA_spec h
            obtain ⟨q1, q2, q3⟩ := spl_ok _ _ _ _ _ h1 st [] hs trivial
            rw [List.append_nil] at q3
            obtain ⟨rc, S1, g1', g2', g3'⟩ := hA _ _ _ _ _ _ _ _ _ h3 _ _ q3 hS
            cases rc with
            | some _ => exact g2'.elim
            | none =>
              rw [runA_I5 hi (Or.inr hk) (acO_0 h1 hs h2) g1']
              exact ih _ _ _ _ _ _ _ _ _ _ h4 _ _ _ hl q2 g3'
          · exact nomatch (show (none : Option (Option aV × aT × Nat × Nat)) = some _ from h)
        · next ix =>
          split at h
          · next md na hk =>
            obtain ⟨av, r, ra, T1, h1, h2, h3, h4⟩ := adspA_call (by rfl) h
            obtain ⟨q1, q2, q3⟩ := spl_ok _ _ _ _ _ h1 st [] hs trivial
            rw [List.append_nil] at q3
            obtain ⟨rc, S1, g1', g2', g3'⟩ := hN n _ _ _ _ _ h3 _ _ q3 hS
            rw [runA_V0 hi hk (acO_0 h1 hs h2) g1']
            exact ih _ _ _ _ _ _ _ _ _ _ h4 _ _ _ hl (gO_cons g2' q2) g3'
          · next md na hk =>
            obtain ⟨av, r, ra, T1, h1, h2, h3, h4⟩ := adspA_call (by rfl) h
            obtain ⟨q1, q2, q3⟩ := spl_ok _ _ _ _ _ h1 st [] hs trivial
            rw [List.append_nil] at q3
            obtain ⟨rc, S1, g1', g2', g3'⟩ := hN n _ _ _ _ _ h3 _ _ q3 hS
            rw [runA_V4 hi hk (acO_4 h1 hs h2) g1']
            exact ih _ _ _ _ _ _ _ _ _ _ h4 _ _ _ hl (gO_cons g2' q2) g3'
          · exact nomatch (show (none : Option (Option aV × aT × Nat × Nat)) = some _ from h)
        · next ix =>
          split at h
          · next md na hk =>
            obtain ⟨av, r, ra, T1, h1, h2, h3, h4⟩ := adspA_call (by rfl) h
            obtain ⟨q1, q2, q3⟩ := spl_ok _ _ _ _ _ h1 st [] hs trivial
            rw [List.append_nil] at q3
            obtain ⟨rc, S1, g1', g2', g3'⟩ := hN n _ _ _ _ _ h3 _ _ q3 hS
            rw [runA_S1 hi (Or.inl hk) (acO_S h1 hs h2) g1']
            exact ih _ _ _ _ _ _ _ _ _ _ h4 _ _ _ hl (gO_cons g2' q2) g3'
          · next md na hk =>
            obtain ⟨av, r, ra, T1, h1, h2, h3, h4⟩ := adspA_call (by rfl) h
            obtain ⟨q1, q2, q3⟩ := spl_ok _ _ _ _ _ h1 st [] hs trivial
            rw [List.append_nil] at q3
            obtain ⟨rc, S1, g1', g2', g3'⟩ := hN n _ _ _ _ _ h3 _ _ q3 hS
            rw [runA_S1 hi (Or.inr hk) (acO_S h1 hs h2) g1']
            exact ih _ _ _ _ _ _ _ _ _ _ h4 _ _ _ hl (gO_cons g2' q2) g3'
          · exact nomatch (show (none : Option (Option aV × aT × Nat × Nat)) = some _ from h)
        · replace h : (match (generalizing := false) as with | [.inl a] => bif sc then some (some (.inl a), T, n, ss) else none | _ => none) = some (r0, T0, n0, ss0) := h
          split at h
          · next a =>
            obtain ⟨hb, h⟩ := bif_s h
            cases h
            obtain ⟨x, s, rfl, hx', hr⟩ := g1i hs
            cases s with
            | nil => exact ⟨_, _, runA_ir hi hb, ⟨x, rfl, hx'⟩, hS⟩
            | cons _ _ => exact hr.elim
          · cases h
        · replace h : (match (generalizing := false) as with | [] => (match (generalizing := false) ret with | none => some (none, T, n, ss) | _ => none) | _ => none) = some (r0, T0, n0, ss0) := h
          split at h
          · split at h
            · cases h
              cases st with
              | nil => exact ⟨_, _, runA_vr hi rfl, trivial, hS⟩
              | cons _ _ => exact hs.elim
            · cases h
          · cases h
        · exact nomatch (show (none : Option (Option aV × aT × Nat × Nat)) = some _ from h)
end AB
theorem aevA_ok {lay : Nat → Nat × Nat} {F : Nat} : ∀ d, gCalA (aevA lay F d) (evA lay F d) := by
  intro d
  induction d with
  | zero => intro q av T n ss r T1 n1 ss1 h; exact nomatch (show (none : Option (Option aV × aT × Nat × Nat)) = some _ from h)
  | succ d ih =>
    intro q av T n ss r T1 n1 ss1 h vs S hv hS
    replace h : (bif Nat.ble (acs av) q.2.2.1 then (match (generalizing := false) alv av 0 with
      | some al => (match (generalizing := false) arunA lay (fLs q.2.2.2.2.1) (cLs q.2.2.2.2.1) (kLs q.2.2.2.2.1) (cCs q.2.2.2.2.1) (kIs q.2.2.2.2.1) q.2.2.2.2.1 q.2.2.1 none false 0 [] (fun n => aevd (layN lay n) F d) (aevA lay F d) q.2.2.2.2.2 F n ss 0 al [] T with
        | some (r, T1, n1, ss1) => bif Nat.ble n n1 && (Nat.ble ss ss1 && Nat.ble n1 1900) then some (r, T1, n1, ss1) else none
        | none => none)
      | none => none) else none) = some (r, T1, n1, ss1) := h
    obtain ⟨hw, h⟩ := bif_s h
    rw [acs_ok hv] at hw
    split at h
    · next al hal =>
      split at h
      · next r2 T2 n2 ss2 hrun =>
        obtain ⟨hb, h⟩ := bif_s h
        cases h
        obtain ⟨r1, S1, q1, q2, q3⟩ := arunA_ok (xs := fun _ => 0) (fun i a z => nomatch (show (none : Option aI) = some a from z)) (fun n => aevd_ok (lay := layN lay n) (F := F) d) ih _ _ _ _ _ _ _ _ _ _ _ hrun _ [] _ (alv_ok hal hv) trivial hS
        refine ⟨r1, S1, ?_, q2, q3⟩
        unfold evA
        rw [show Nat.ble (wds vs) q.2.2.1 = true from hw]
        show (match (generalizing := false) runA lay _ _ _ _ _ _ _ none false 0 (fun _ => 0) _ _ _ F n ss 0 (lv_args 0 vs) [] S with
          | some (r, S1, n1, ss1) => bif Nat.ble n n1 && (Nat.ble ss ss1 && Nat.ble n1 1900) then some (r, S1, n1, ss1) else none
          | none => none) = _
        rw [q1]
        dsimp only
        rw [hb]
        rfl
      · cases h
    · cases h

