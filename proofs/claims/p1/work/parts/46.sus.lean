/-! RUNS IN PIECES: so many steps of one body, from a state to a state -/
abbrev acfgA : Type := Nat × Nat × Nat × List (Nat × aV) × List aV × aT
theorem adspA_par {lay : Nat → Nat × Nat} {ret : Option FieldType} {sc : Bool} {callN : Nat → acal} {callA : acalA} {γ : Type} {ih : Nat → Nat → Nat → List (Nat × aV) → List aV → aT → Option γ} {o : Option aOA} {n ss pc : Nat} {lv : List (Nat × aV)} {st : List aV} {T : aT} {c : γ} (h : adspA (fun _ _ _ _ => none) lay ret sc callN callA ih o n ss pc lv st T = some c) : ∃ n1 ss1 pc1 lv1 st1 T1, ih n1 ss1 pc1 lv1 st1 T1 = some c ∧ ∀ (β : Type) (fin : Option aV → aT → Nat → Nat → Option β) (ih2 : Nat → Nat → Nat → List (Nat × aV) → List aV → aT → Option β), adspA fin lay ret sc callN callA ih2 o n ss pc lv st T = ih2 n1 ss1 pc1 lv1 st1 T1 := by
  cases o with
  | none => exact nomatch (show (none : Option γ) = some c from h)
  | some o =>
    cases o with
    | inl f =>
      replace h : (match (generalizing := false) f pc lv st T with | some (pc1, lv1, st1, T1) => ih n ss pc1 lv1 st1 T1 | none => none) = some c := h
      split at h
      · next pc1 lv1 st1 T1 hf =>
        refine ⟨_, _, _, _, _, _, h, fun β fin ih2 => ?_⟩
        show (match (generalizing := false) f pc lv st T with | some (pc1, lv1, st1, T1) => ih2 n ss pc1 lv1 st1 T1 | none => none) = _
        rw [hf]
      · cases h
    | inr o =>
      cases o with
      | inl f =>
        replace h : (match (generalizing := false) f n ss pc st T with | some (n1, ss1, pc1, st1, T1) => ih n1 ss1 pc1 lv st1 T1 | none => none) = some c := h
        split at h
        · next n1 ss1 pc1 st1 T1 hf =>
          refine ⟨_, _, _, _, _, _, h, fun β fin ih2 => ?_⟩
          show (match (generalizing := false) f n ss pc st T with | some (n1, ss1, pc1, st1, T1) => ih2 n1 ss1 pc1 lv st1 T1 | none => none) = _
          rw [hf]
        · cases h
      | inr o =>
        cases o with
        | inl q =>
          obtain ⟨kd, md, na⟩ := q
          unfold adspA at h ⊢
          dsimp only at h ⊢
          cases hsp : spl (bif Nat.beq kd 1 || Nat.beq kd 3 then na else Nat.succ na) [] st with
          | none => rw [hsp] at h; exact nomatch (show (none : Option γ) = some c from h)
          | some p =>
            obtain ⟨av, r⟩ := p
            rw [hsp] at h
            dsimp only at h ⊢
            cases h5 : Nat.beq kd 5 with
            | true =>
              rw [h5] at h
              cases hc : acO (layN lay n) 0 md.2.2.2.2.1 av r with
              | false => rw [hc] at h; exact nomatch (show (none : Option γ) = some c from h)
              | true =>
                rw [hc] at h
                replace h : (match (generalizing := false) callA md av T n ss with | some (none, T1, n1, ss1) => frcN (Nat.add pc 3) (fun pc => ih n1 ss1 pc lv r T1) | _ => none) = some c := h
                split at h
                · next T1 n1 ss1 he =>
                  rw [frcN_eq] at h
                  refine ⟨_, _, _, _, _, _, h, fun β fin ih2 => ?_⟩
                  first
                    | (show (match (generalizing := false) callA md av T n ss with | some (none, T1, n1, ss1) => frcN (Nat.add pc 3) (fun pc => ih2 n1 ss1 pc lv r T1) | _ => none) = _; rw [he]; exact frcN_eq)
                    | (show frcN (Nat.add pc 3) (fun pc => ih2 n1 ss1 pc lv r T1) = _; exact frcN_eq)
                · cases h
            | false =>
              rw [h5] at h
              cases hc : acO (layN lay n) kd md.2.2.2.2.1 av r with
              | false => rw [hc] at h; exact nomatch (show (none : Option γ) = some c from h)
              | true =>
                rw [hc] at h
                replace h : (match (generalizing := false) callN n md av T with | some (some v, T1) => frcN (Nat.add pc 3) (fun pc => ih n ss pc lv (v :: r) T1) | some (none, T1) => frcN (Nat.add pc 3) (fun pc => ih n ss pc lv r T1) | none => none) = some c := h
                split at h
                · next v T1 he =>
                  rw [frcN_eq] at h
                  refine ⟨_, _, _, _, _, _, h, fun β fin ih2 => ?_⟩
                  first
                    | (show (match (generalizing := false) callN n md av T with | some (some v, T1) => frcN (Nat.add pc 3) (fun pc => ih2 n ss pc lv (v :: r) T1) | some (none, T1) => frcN (Nat.add pc 3) (fun pc => ih2 n ss pc lv r T1) | none => none) = _; rw [he]; exact frcN_eq)
                    | (show frcN (Nat.add pc 3) (fun pc => ih2 n ss pc lv (v :: r) T1) = _; exact frcN_eq)
                · next T1 he =>
                  rw [frcN_eq] at h
                  refine ⟨_, _, _, _, _, _, h, fun β fin ih2 => ?_⟩
                  first
                    | (show (match (generalizing := false) callN n md av T with | some (some v, T1) => frcN (Nat.add pc 3) (fun pc => ih2 n ss pc lv (v :: r) T1) | some (none, T1) => frcN (Nat.add pc 3) (fun pc => ih2 n ss pc lv r T1) | none => none) = _; rw [he]; exact frcN_eq)
                    | (show frcN (Nat.add pc 3) (fun pc => ih2 n ss pc lv r T1) = _; exact frcN_eq)
                · cases h
        | inr t =>
          unfold adspA at h ⊢
          dsimp only at h ⊢
          cases h7 : Nat.beq t 7 with
          | true =>
            rw [h7] at h
            replace h : (match (generalizing := false) st with | .inr (.inr (some _)) :: r => bif Nat.ble (acs r) 8 then frcN (Nat.add pc 3) (fun pc => ih n ss pc lv r T) else none | _ => none) = some c := h
            split at h
            · next k r =>
              obtain ⟨hb, h⟩ := bif_s h
              rw [frcN_eq] at h
              refine ⟨_, _, _, _, _, _, h, fun β fin ih2 => ?_⟩
              show (bif Nat.ble (acs r) 8 then frcN (Nat.add pc 3) (fun pc => ih2 n ss pc lv r T) else none) = _
              rw [hb]
              show frcN (Nat.add pc 3) (fun pc => ih2 n ss pc lv r T) = _
              exact frcN_eq
            · cases h
          | false =>
            rw [h7] at h
            cases h20 : Nat.beq t 20 with
            | true =>
              rw [h20] at h
              replace h : (match (generalizing := false) st with | [.inl a] => bif sc then none else none | _ => none) = some c := h
              split at h
              · cases sc <;> cases h
              · cases h
            | false =>
              rw [h20] at h
              cases h23 : Nat.beq t 23 with
              | true =>
                rw [h23] at h
                replace h : (match (generalizing := false) st with | [] => (match (generalizing := false) ret with | none => none | _ => none) | _ => none) = some c := h
                split at h
                · split at h <;> cases h
                · cases h
              | false => rw [h23] at h; exact nomatch (show (none : Option γ) = some c from h)
noncomputable def srunA (lay : Nat → Nat × Nat) (fL : Nat → Option (Nat × Nat × Bool)) (cL : Nat → Option Value) (kL : Nat → Option (Nat × mT × Nat)) (cC : Nat → Option Nat) (kI : Nat → Option (Nat × mT × Nat)) (ow nL : Nat) (ret : Option FieldType) (sc : Bool) (L : Nat) (axs : List aI) (callN : Nat → acal) (callA : acalA) (code : List (Nat × Instr)) (k : Nat) : Nat → Nat → Nat → List (Nat × aV) → List aV → aT → Option acfgA := Nat.rec (motive := fun _ => Nat → Nat → Nat → List (Nat × aV) → List aV → aT → Option acfgA) (fun n ss pc lv st T => some (n, ss, pc, lv, st, T)) (fun _ ih n ss pc lv st T => adspA (fun _ _ _ _ => none) lay ret sc callN callA ih (aopA lay fL cL kL cC kI ow nL sc L axs code n pc) n ss pc lv st T) k
theorem srunA_ok {lay : Nat → Nat × Nat} {fL : Nat → Option (Nat × Nat × Bool)} {cL : Nat → Option Value} {kL : Nat → Option (Nat × mT × Nat)} {cC : Nat → Option Nat} {kI : Nat → Option (Nat × mT × Nat)} {ow nL : Nat} {ret : Option FieldType} {sc : Bool} {L : Nat} {axs : List aI} {callN : Nat → acal} {callA : acalA} {code : List (Nat × Instr)} : ∀ (k n ss pc : Nat) (lv : List (Nat × aV)) (st : List aV) (T : aT) (n1 ss1 pc1 : Nat) (lv1 : List (Nat × aV)) (st1 : List aV) (T1 : aT), srunA lay fL cL kL cC kI ow nL ret sc L axs callN callA code k n ss pc lv st T = some (n1, ss1, pc1, lv1, st1, T1) → ∀ F, arunA lay fL cL kL cC kI ow nL ret sc L axs callN callA code (F + k) n ss pc lv st T = arunA lay fL cL kL cC kI ow nL ret sc L axs callN callA code F n1 ss1 pc1 lv1 st1 T1 := by
  intro k
  induction k with
  | zero =>
    intro n ss pc lv st T n1 ss1 pc1 lv1 st1 T1 h F
    cases (Option.some.inj h)
    rfl
  | succ k ih =>
    intro n ss pc lv st T n1 ss1 pc1 lv1 st1 T1 h F
    obtain ⟨n2, ss2, pc2, lv2, st2, T2, q1, q2⟩ := adspA_par (show adspA (fun _ _ _ _ => none) lay ret sc callN callA (srunA lay fL cL kL cC kI ow nL ret sc L axs callN callA code k) (aopA lay fL cL kL cC kI ow nL sc L axs code n pc) n ss pc lv st T = some (n1, ss1, pc1, lv1, st1, T1) from h)
    show adspA finA lay ret sc callN callA (arunA lay fL cL kL cC kI ow nL ret sc L axs callN callA code (F + k)) (aopA lay fL cL kL cC kI ow nL sc L axs code n pc) n ss pc lv st T = _
    rw [q2 _ finA]
    exact ih _ _ _ _ _ _ _ _ _ _ _ _ q1 F
theorem adsp_par {lay : Nat → Nat × Nat} {ret : Option FieldType} {call : acal} {γ : Type} {ih : Nat → List (Nat × aV) → List aV → aT → Option γ} {o : Option aO} {pc : Nat} {lv : List (Nat × aV)} {st : List aV} {T : aT} {c : γ} (h : adsp (fun _ _ => none) lay ret call ih o pc lv st T = some c) : ∃ pc1 lv1 st1 T1, ih pc1 lv1 st1 T1 = some c ∧ ∀ (β : Type) (fin : Option aV → aT → Option β) (ih2 : Nat → List (Nat × aV) → List aV → aT → Option β), adsp fin lay ret call ih2 o pc lv st T = ih2 pc1 lv1 st1 T1 := by
  cases o with
  | none => exact nomatch (show (none : Option γ) = some c from h)
  | some o =>
    cases o with
    | inl f =>
      replace h : (match (generalizing := false) f pc lv st T with | some (pc1, lv1, st1, T1) => ih pc1 lv1 st1 T1 | none => none) = some c := h
      split at h
      · next pc1 lv1 st1 T1 hf =>
        refine ⟨_, _, _, _, h, fun β fin ih2 => ?_⟩
        show (match (generalizing := false) f pc lv st T with | some (pc1, lv1, st1, T1) => ih2 pc1 lv1 st1 T1 | none => none) = _
        rw [hf]
      · cases h
    | inr o =>
      cases o with
      | inl q =>
        obtain ⟨kd, md, na⟩ := q
        unfold adsp at h ⊢
        dsimp only at h ⊢
        cases hsp : spl (bif Nat.beq kd 0 || Nat.beq kd 4 then Nat.succ na else na) [] st with
        | none => rw [hsp] at h; exact nomatch (show (none : Option γ) = some c from h)
        | some p =>
          obtain ⟨av, r⟩ := p
          rw [hsp] at h
          dsimp only at h ⊢
          cases hc : acO lay kd md.2.2.2.2.1 av r with
          | false => rw [hc] at h; exact nomatch (show (none : Option γ) = some c from h)
          | true =>
            rw [hc] at h
            replace h : (match (generalizing := false) call md av T with | some (some v, T1) => frcN (Nat.add pc 3) (fun pc => ih pc lv (v :: r) T1) | some (none, T1) => frcN (Nat.add pc 3) (fun pc => ih pc lv r T1) | none => none) = some c := h
            split at h
            · next v T1 he =>
              rw [frcN_eq] at h
              refine ⟨_, _, _, _, h, fun β fin ih2 => ?_⟩
              first
                | (show (match (generalizing := false) call md av T with | some (some v, T1) => frcN (Nat.add pc 3) (fun pc => ih2 pc lv (v :: r) T1) | some (none, T1) => frcN (Nat.add pc 3) (fun pc => ih2 pc lv r T1) | none => none) = _; rw [he]; exact frcN_eq)
                | (show frcN (Nat.add pc 3) (fun pc => ih2 pc lv (v :: r) T1) = _; exact frcN_eq)
            · next T1 he =>
              rw [frcN_eq] at h
              refine ⟨_, _, _, _, h, fun β fin ih2 => ?_⟩
              first
                | (show (match (generalizing := false) call md av T with | some (some v, T1) => frcN (Nat.add pc 3) (fun pc => ih2 pc lv (v :: r) T1) | some (none, T1) => frcN (Nat.add pc 3) (fun pc => ih2 pc lv r T1) | none => none) = _; rw [he]; exact frcN_eq)
                | (show frcN (Nat.add pc 3) (fun pc => ih2 pc lv r T1) = _; exact frcN_eq)
            · cases h
      | inr t =>
        unfold adsp at h ⊢
        dsimp only at h ⊢
        cases h20 : Nat.blt t 20 with
        | true =>
          rw [h20] at h
          cases h9 : Nat.beq t 9 with
          | true =>
            rw [h9] at h
            replace h : (match (generalizing := false) acpy lay st with | some r => frcN (Nat.add pc 3) (fun pc => ih pc lv r T) | none => none) = some c := h
            split at h
            · next r hm =>
              rw [frcN_eq] at h
              refine ⟨_, _, _, _, h, fun β fin ih2 => ?_⟩
              first
                | (show (match (generalizing := false) acpy lay st with | some r => frcN (Nat.add pc 3) (fun pc => ih2 pc lv r T) | none => none) = _; rw [hm]; exact frcN_eq)
                | (show frcN (Nat.add pc 3) (fun pc => ih2 pc lv r T) = _; exact frcN_eq)
            · cases h
          | false =>
            rw [h9] at h
            replace h : (match (generalizing := false) amth t st with | some (a, r) => frcA a (fun a => frcN (Nat.add pc 3) (fun pc => ih pc lv (.inl a :: r) T)) | none => none) = some c := h
            split at h
            · next a r hm =>
              rw [frcA_eq, frcN_eq] at h
              refine ⟨_, _, _, _, h, fun β fin ih2 => ?_⟩
              first
                | (show (match (generalizing := false) amth t st with | some (a, r) => frcA a (fun a => frcN (Nat.add pc 3) (fun pc => ih2 pc lv (.inl a :: r) T)) | none => none) = _; rw [hm]; dsimp only; rw [frcA_eq, frcN_eq])
                | (show frcA a (fun a => frcN (Nat.add pc 3) (fun pc => ih2 pc lv (.inl a :: r) T)) = _; rw [frcA_eq, frcN_eq])
            · cases h
        | false =>
          rw [h20] at h
          replace h : aret (fun _ _ => none) ret t st T = some c := h
          exfalso
          unfold aret at h
          cases h1 : Nat.beq t 20 with
          | true =>
            rw [h1] at h
            replace h : (match (generalizing := false) st with | [.inl a] => bif retIA ret a then none else none | _ => none) = some c := h
            split at h
            · next a => cases hq : retIA ret a <;> rw [hq] at h <;> cases h
            · cases h
          | false =>
            rw [h1] at h
            cases h2 : Nat.beq t 21 with
            | true =>
              rw [h2] at h
              replace h : (match (generalizing := false) st with | [.inr (.inl a)] => (match (generalizing := false) ret with | some .long => none | _ => none) | _ => none) = some c := h
              split at h
              · split at h <;> cases h
              · cases h
            | false =>
              rw [h2] at h
              cases h3 : Nat.beq t 22 with
              | true =>
                rw [h3] at h
                replace h : (match (generalizing := false) st with | [.inr (.inr a)] => bif retA ret (rv a) then none else none | _ => none) = some c := h
                split at h
                · next a => cases hq : retA ret (rv a) <;> rw [hq] at h <;> cases h
                · cases h
              | false =>
                rw [h3] at h
                cases h4 : Nat.beq t 23 with
                | true =>
                  rw [h4] at h
                  replace h : (match (generalizing := false) st with | [] => (match (generalizing := false) ret with | none => none | _ => none) | _ => none) = some c := h
                  split at h
                  · split at h <;> cases h
                  · cases h
                | false => rw [h4] at h; exact nomatch (show (none : Option γ) = some c from h)
noncomputable def srun (lay : Nat → Nat × Nat) (fL : Nat → Option (Nat × Nat × Bool)) (cL : Nat → Option Value) (kL : Nat → Option (Nat × mT × Nat)) (nL : Nat) (ret : Option FieldType) (call : acal) (code : List (Nat × Instr)) (k : Nat) : Nat → List (Nat × aV) → List aV → aT → Option acfg := Nat.rec (motive := fun _ => Nat → List (Nat × aV) → List aV → aT → Option acfg) (fun pc lv st T => some (pc, lv, st, T)) (fun _ ih pc lv st T => adsp (fun _ _ => none) lay ret call ih (aop lay fL cL kL nL code pc) pc lv st T) k
theorem srun_ok {lay : Nat → Nat × Nat} {fL : Nat → Option (Nat × Nat × Bool)} {cL : Nat → Option Value} {kL : Nat → Option (Nat × mT × Nat)} {nL : Nat} {ret : Option FieldType} {call : acal} {code : List (Nat × Instr)} : ∀ (k pc : Nat) (lv : List (Nat × aV)) (st : List aV) (T : aT) (pc1 : Nat) (lv1 : List (Nat × aV)) (st1 : List aV) (T1 : aT), srun lay fL cL kL nL ret call code k pc lv st T = some (pc1, lv1, st1, T1) → ∀ F, arun lay fL cL kL nL ret call code (F + k) pc lv st T = arun lay fL cL kL nL ret call code F pc1 lv1 st1 T1 := by
  intro k
  induction k with
  | zero =>
    intro pc lv st T pc1 lv1 st1 T1 h F
    cases (Option.some.inj h)
    rfl
  | succ k ih =>
    intro pc lv st T pc1 lv1 st1 T1 h F
    obtain ⟨pc2, lv2, st2, T2, q1, q2⟩ := adsp_par (show adsp (fun _ _ => none) lay ret call (srun lay fL cL kL nL ret call code k) (aop lay fL cL kL nL code pc) pc lv st T = some (pc1, lv1, st1, T1) from h)
    show adsp finR lay ret call (arun lay fL cL kL nL ret call code (F + k)) (aop lay fL cL kL nL code pc) pc lv st T = _
    rw [q2 _ finR]
    exact ih _ _ _ _ _ _ _ _ q1 F
