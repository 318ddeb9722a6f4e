/-! RUNS IN PIECES: so many steps of one body, from a state to a state -/
abbrev acfgA : Type := Nat × Nat × Nat × List (Nat × aV) × List aV × aT
theorem adspA_par {lay : Nat → Nat × Nat} {ret : Option FieldType} {sc : Bool} {callN : Nat → acal} {callA : acalA} {γ : Type} {ih : Nat → Nat → Nat → List (Nat × aV) → List aV → aT → Option γ} {o : Option aOA} {n ss pc : Nat} {lv : List (Nat × aV)} {st : List aV} {T : aT} {c : γ} (h : adspA (fun _ _ _ _ => none) lay ret sc callN callA ih o n ss pc lv st T = some c) : ∃ n1 ss1 pc1 lv1 st1 T1, ih n1 ss1 pc1 lv1 st1 T1 = some c ∧ ∀ (β : Type) (fin : Option aV → aT → Nat → Nat → Option β) (ih2 : Nat → Nat → Nat → List (Nat × aV) → List aV → aT → Option β), adspA fin lay ret sc callN callA ih2 o n ss pc lv st T = ih2 n1 ss1 pc1 lv1 st1 T1 := by
  cases o with
  | none => exact nomatch (show (none : Option γ) = some c from h)
  | some o =>
    cases o with
    | inl f =>
      replace h : (match (generalizing := false) f pc lv st T with | some (pc1, lv1, st1, T1) => ih n ss pc1 lv1 st1 T1 | none => none) = some c := h
      split at h
      · next pc1 lv1 st1 T1 hf =>
        refine ⟨_, _, _, _, _, _, h, fun β fin ih2 => ?_⟩
        show (match (generalizing := false) f pc lv st T with | some (pc1, lv1, st1, T1) => ih2 n ss pc1 lv1 st1 T1 | none => none) = _
        rw [hf]
      · cases h
    | inr o =>
      cases o with
      | inl f =>
        replace h : (match (generalizing := false) f n ss pc st T with | some (n1, ss1, pc1, st1, T1) => ih n1 ss1 pc1 lv st1 T1 | none => none) = some c := h
        split at h
        · next n1 ss1 pc1 st1 T1 hf =>
          refine ⟨_, _, _, _, _, _, h, fun β fin ih2 => ?_⟩
          show (match (generalizing := false) f n ss pc st T with | some (n1, ss1, pc1, st1, T1) => ih2 n1 ss1 pc1 lv st1 T1 | none => none) = _
          rw [hf]
        · cases h
      | inr o =>
        cases o with
        | inl q =>
          obtain ⟨kd, md, na⟩ := q
          unfold adspA at h ⊢
          dsimp only at h ⊢
          cases hsp : spl (bif Nat.beq kd 1 || Nat.beq kd 3 then na else Nat.succ na) [] st with
          | none => rw [hsp] at h; exact nomatch (show (none : Option γ) = some c from h)
          | some p =>
            obtain ⟨av, r⟩ := p
            rw [hsp] at h
            dsimp only at h ⊢
            cases h5 : Nat.beq kd 5 with
            | true =>
              rw [h5] at h
              cases hc : acO (layN lay n) 0 md.2.2.2.2.1 av r with
              | false => rw [hc] at h; exact nomatch (show (none : Option γ) = some c from h)
              | true =>
                rw [hc] at h
                replace h : (match (generalizing := false) callA md av T n ss with | some (none, T1, n1, ss1) => frcN (Nat.add pc 3) (fun pc => ih n1 ss1 pc lv r T1) | _ => none) = some c := h
                split at h
                · next T1 n1 ss1 he =>
                  rw [frcN_eq] at h
                  refine ⟨_, _, _, _, _, _, h, fun β fin ih2 => ?_⟩
                  first
                    | (show (match (generalizing := false) callA md av T n ss with | some (none, T1, n1, ss1) => frcN (Nat.add pc 3) (fun pc => ih2 n1 ss1 pc lv r T1) | _ => none) = _; rw [he]; exact frcN_eq)
                    | (show frcN (Nat.add pc 3) (fun pc => ih2 n1 ss1 pc lv r T1) = _; exact frcN_eq)
                · cases h
            | false =>
              rw [h5] at h
              cases hc : acO (layN lay n) kd md.2.2.2.2.1 av r with
              | false => rw [hc] at h; exact nomatch (show (none : Option γ) = some c from h)
              | true =>
                rw [hc] at h
                replace h : (match (generalizing := false) callN n md av T with | some (some v, T1) => frcN (Nat.add pc 3) (fun pc => ih n ss pc lv (v :: r) T1) | some (none, T1) => frcN (Nat.add pc 3) (fun pc => ih n ss pc lv r T1) | none => none) = some c := h
                split at h
                · next v T1 he =>
                  rw [frcN_eq] at h
                  refine ⟨_, _, _, _, _, _, h, fun β fin ih2 => ?_⟩
                  first
                    | (show (match (generalizing := false) callN n md av T with | some (some v, T1) => frcN (Nat.add pc 3) (fun pc => ih2 n ss pc lv (v :: r) T1) | some (none, T1) => frcN (Nat.add pc 3) (fun pc => ih2 n ss pc lv r T1) | none => none) = _; rw [he]; exact frcN_eq)
                    | (show frcN (Nat.add pc 3) (fun pc => ih2 n ss pc lv (v :: r) T1) = _; exact frcN_eq)
                · next T1 he =>
                  rw [frcN_eq] at h
                  refine ⟨_, _, _, _, _, _, h, fun β fin ih2 => ?_⟩
                  first
                    | (show (match (generalizing := false) callN n md av T with | some (some v, T1) => frcN (Nat.add pc 3) (fun pc => ih2 n ss pc lv (v :: r) T1) | some (none, T1) => frcN (Nat.add pc 3) (fun pc => ih2 n ss pc lv r T1) | none => none) = _; rw [he]; exact frcN_eq)
                    | (show frcN (Nat.add pc 3) (fun pc => ih2 n ss pc lv r T1) = _; exact frcN_eq)
                · cases h
        | inr t =>
          unfold adspA at h ⊢
          dsimp only at h ⊢
          cases h7 : Nat.beq t 7 with
          | true =>
            rw [h7] at h
            replace h : (match (generalizing := false) st with | .inr (.inr (some _)) :: r => bif Nat.ble (acs r) 8 then frcN (Nat.add pc 3) (fun pc => ih n ss pc lv r T) else none | _ => none) = some c := h
            split at h
            · next k r =>
              obtain ⟨hb, h⟩ := bif_s h
              rw [frcN_eq] at h
              refine ⟨_, _, _, _, _, _, h, fun β fin ih2 => ?_⟩
              show (bif Nat.ble (acs r) 8 then frcN (Nat.add pc 3) (fun pc => ih2 n ss pc lv r T) else none) = _
              rw [hb]
              show frcN (Nat.add pc 3) (fun pc => ih2 n ss pc lv r T) = _
              exact frcN_eq
            · cases h
          | false =>
            rw [h7] at h
            cases h20 : Nat.beq t 20 with
            | true =>
              rw [h20] at h
              replace h : (match (generalizing := false) st with | [.inl a] => bif sc then none else none | _ => none) = some c := h
              split at h
              · cases sc <;> cases h
              · cases h
            | false =>
              rw [h20] at h
              cases h23 : Nat.beq t 23 with
              | true =>
                rw [h23] at h
                replace h : (match (generalizing := false) st with | [] => (match (generalizing := false) ret with | none => none | _ => none) | _ => none) = some c := h
                split at h
                · split at h <;> cases h
                · cases h
              | false => rw [h23] at h; exact nomatch (show (none : Option γ) = some c from h)
noncomputable def srunA (lay : Nat → Nat × Nat) (fL : Nat → Option (Nat × Nat × Bool)) (cL : Nat → Option Value) (kL : Nat → Option (Nat × mT × Nat)) (cC : Nat → Option Nat) (kI : Nat → Option (Nat × mT × Nat)) (ow nL : Nat) (ret : Option FieldType) (sc : Bool) (L : Nat) (axs : List aI) (callN : Nat → acal) (callA : acalA) (code : List (Nat × Instr)) (k : Nat) : Nat → Nat → Nat → List (Nat × aV) → List aV → aT → Option acfgA := Nat.rec (motive := fun _ => Nat → Nat → Nat → List (Nat × aV) → List aV → aT → Option acfgA) (fun n ss pc lv st T => some (n, ss, pc, lv, st, T)) (fun _ ih n ss pc lv st T => adspA (fun _ _ _ _ => none) lay ret sc callN callA ih (aopA lay fL cL kL cC kI ow nL sc L axs code n pc) n ss pc lv st T) k
theorem srunA_ok {lay : Nat → Nat × Nat} {fL : Nat → Option (Nat × Nat × Bool)} {cL : Nat → Option Value} {kL : Nat → Option (Nat × mT × Nat)} {cC : Nat → Option Nat} {kI : Nat → Option (Nat × mT × Nat)} {ow nL : Nat} {ret : Option FieldType} {sc : Bool} {L : Nat} {axs : List aI} {callN : Nat → acal} {callA : acalA} {code : List (Nat × Instr)} : ∀ (k n ss pc : Nat) (lv : List (Nat × aV)) (st : List aV) (T : aT) (n1 ss1 pc1 : Nat) (lv1 : List (Nat × aV)) (st1 : List aV) (T1 : aT), srunA lay fL cL kL cC kI ow nL ret sc L axs callN callA code k n ss pc lv st T = some (n1, ss1, pc1, lv1, st1, T1) → ∀ F, arunA lay fL cL kL cC kI ow nL ret sc L axs callN callA code (F + k) n ss pc lv st T = arunA lay fL cL kL cC kI ow nL ret sc L axs callN callA code F n1 ss1 pc1 lv1 st1 T1 := by
  intro k
  induction k with
  | zero =>
    intro n ss pc lv st T n1 ss1 pc1 lv1 st1 T1 h F
    cases (Option.some.inj h)
    rfl
  | succ k ih =>
    intro n ss pc lv st T n1 ss1 pc1 lv1 st1 T1 h F
    obtain ⟨n2, ss2, pc2, lv2, st2, T2, q1, q2⟩ := adspA_par (show adspA (fun _ _ _ _ => none) lay ret sc callN callA (srunA lay fL cL kL cC kI ow nL ret sc L axs callN callA code k) (aopA lay fL cL kL cC kI ow nL sc L axs code n pc) n ss pc lv st T = some (n1, ss1, pc1, lv1, st1, T1) from h)
    show adspA finA lay ret sc callN callA (arunA lay fL cL kL cC kI ow nL ret sc L axs callN callA code (F + k)) (aopA lay fL cL kL cC kI ow nL sc L axs code n pc) n ss pc lv st T = _
    rw [q2 _ finA]
    exact ih _ _ _ _ _ _ _ _ _ _ _ _ q1 F

