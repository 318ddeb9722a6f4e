/-! BODIES IN PIECES -/
noncomputable def eqS (a : List aV) : List aV → Bool := List.rec (motive := fun _ => List aV → Bool) (fun b => List.casesOn b true (fun _ _ => false)) (fun x _ ih b => List.casesOn b false (fun y u => bif eqV x y then ih u else false)) a
theorem eqS_ok : ∀ (a b : List aV), eqS a b = true → a = b := by
  intro a
  induction a with
  | nil =>
    intro b h
    cases b with
    | nil => rfl
    | cons _ _ => exact nomatch (show false = true from h)
  | cons x t ih =>
    intro b h
    cases b with
    | nil => exact nomatch (show false = true from h)
    | cons y u =>
      obtain ⟨h1, h2⟩ := bif_t (show (bif eqV x y then eqS t u else false) = true from h)
      rw [eqV_ok h1, ih u h2]
noncomputable def chkS (o : Option acfgA) (n ss pc : Nat) (lv : List (Nat × aV)) (st : List aV) (T : aT) : Bool := match o with
  | some (n1, ss1, pc1, lv1, st1, T1) => bif Nat.beq n1 n then (bif Nat.beq ss1 ss then (bif Nat.beq pc1 pc then (bif eqC lv1 lv then (bif eqS st1 st then eqT 10 T1 T else false) else false) else false) else false) else false
  | none => false
theorem chkS_ok {o : Option acfgA} {n ss pc : Nat} {lv : List (Nat × aV)} {st : List aV} {T : aT} (h : chkS o n ss pc lv st T = true) : o = some (n, ss, pc, lv, st, T) := by
  unfold chkS at h
  split at h
  · obtain ⟨h1, h⟩ := bif_t h
    obtain ⟨h2, h⟩ := bif_t h
    obtain ⟨h3, h⟩ := bif_t h
    obtain ⟨h4, h⟩ := bif_t h
    obtain ⟨h5, h6⟩ := bif_t h
    rw [Nat.eq_of_beq_eq_true h1, Nat.eq_of_beq_eq_true h2, Nat.eq_of_beq_eq_true h3, eqC_ok _ _ h4, eqS_ok _ _ h5, eqT_ok 10 _ _ h6]
  · cases h
/-- a constructor's body -/
noncomputable def sbA (q : mT) (d k : Nat) : Nat → Nat → Nat → List (Nat × aV) → List aV → aT → Option acfgA := srunA layR (fLs q.2.2.2.2.1) (cLs q.2.2.2.2.1) (kLs q.2.2.2.2.1) (cCs q.2.2.2.2.1) (kIs q.2.2.2.2.1) q.2.2.2.2.1 q.2.2.1 none false 0 [] (fun n => aevd (layN layR n) FU d) (aevA layR FU d) q.2.2.2.2.2 k
noncomputable def rbA (q : mT) (d F : Nat) : Nat → Nat → Nat → List (Nat × aV) → List aV → aT → Option (Option aV × aT × Nat × Nat) := arunA layR (fLs q.2.2.2.2.1) (cLs q.2.2.2.2.1) (kLs q.2.2.2.2.1) (cCs q.2.2.2.2.1) (kIs q.2.2.2.2.1) q.2.2.2.2.1 q.2.2.1 none false 0 [] (fun n => aevd (layN layR n) FU d) (aevA layR FU d) q.2.2.2.2.2 F
theorem sbA_ok {q : mT} {d k n ss pc n1 ss1 pc1 : Nat} {lv lv1 : List (Nat × aV)} {st st1 : List aV} {T T1 : aT} (h : chkS (sbA q d k n ss pc lv st T) n1 ss1 pc1 lv1 st1 T1 = true) (F : Nat) : rbA q d (F + k) n ss pc lv st T = rbA q d F n1 ss1 pc1 lv1 st1 T1 := srunA_ok k _ _ _ _ _ _ _ _ _ _ _ _ (chkS_ok h) F
theorem aevA_of {q : mT} {d : Nat} {av : List aV} {al : List (Nat × aV)} {T T1 : aT} {n ss n1 ss1 : Nat} {r : Option aV} (h1 : Nat.ble (acs av) q.2.2.1 = true) (h2 : alv av 0 = some al) (h3 : rbA q d FU n ss 0 al [] T = some (r, T1, n1, ss1)) (h4 : (Nat.ble n n1 && (Nat.ble ss ss1 && Nat.ble n1 1900)) = true) : aevA layR FU (d + 1) q av T n ss = some (r, T1, n1, ss1) := by
  show (bif Nat.ble (acs av) q.2.2.1 then (match (generalizing := false) alv av 0 with
    | some al => (match (generalizing := false) rbA q d FU n ss 0 al [] T with
      | some (r, T1, n1, ss1) => bif Nat.ble n n1 && (Nat.ble ss ss1 && Nat.ble n1 1900) then some (r, T1, n1, ss1) else none
      | none => none)
    | none => none) else none) = _
  rw [h1, h2]
  show (match (generalizing := false) rbA q d FU n ss 0 al [] T with
      | some (r, T1, n1, ss1) => bif Nat.ble n n1 && (Nat.ble ss ss1 && Nat.ble n1 1900) then some (r, T1, n1, ss1) else none
      | none => none) = _
  rw [h3]
  dsimp only
  rw [h4]
  rfl

