/-! MORE FUEL: what a run answers, it answers with more fuel, and more depth, too -/
def calLe (c1 c2 : cal) : Prop := ∀ q av S r, c1 q av S = some r → c2 q av S = some r
theorem run_mono {lay : Nat → Nat × Nat} {fL : Nat → Option (Nat × Nat × Bool)} {cL : Nat → Option Value} {kL : Nat → Option (Nat × mT × Nat)} {nL : Nat} {ret : Option FieldType} {code : List (Nat × Instr)} {c1 c2 : cal} (hc : calLe c1 c2) : ∀ (F F2 : Nat), F ≤ F2 → ∀ pc lv st S r, run lay fL cL kL nL ret c1 code F pc lv st S = some r → run lay fL cL kL nL ret c2 code F2 pc lv st S = some r := by
  intro F
  induction F with
  | zero => intro F2 _ pc lv st S r h; exact nomatch (show (none : Option (Option Value × sS)) = some r from h)
  | succ F ih0 =>
    intro F2 h2 pc lv st S r h
    obtain ⟨F2, rfl⟩ : ∃ k, F2 = k + 1 := ⟨F2 - 1, by omega⟩
    have ih := ih0 F2 (by omega)
    unfold run at h ⊢
    cases hl : lk code pc with
    | none => rw [hl] at h; exact nomatch (show (none : Option (Option Value × sS)) = some r from h)
    | some i =>
      rw [hl] at h
      cases i
      case invokevirtual ix =>
        dsimp only at h ⊢
        split at h
        · next md na hk =>
          obtain ⟨hb, h⟩ := bif_s h
          split at h
          · next v S1 hq => simp only [hk, hb, cond_true, hc _ _ _ _ hq]; exact ih _ _ _ _ _ h
          · next S1 hq => simp only [hk, hb, cond_true, hc _ _ _ _ hq]; exact ih _ _ _ _ _ h
          · exact nomatch h
        · next md na hk =>
          obtain ⟨hb, h⟩ := bif_s h
          split at h
          · next v S1 hq => simp only [hk, hb, cond_true, hc _ _ _ _ hq]; exact ih _ _ _ _ _ h
          · next S1 hq => simp only [hk, hb, cond_true, hc _ _ _ _ hq]; exact ih _ _ _ _ _ h
          · exact nomatch h
        · exact nomatch h
      case invokestatic ix =>
        dsimp only at h ⊢
        split at h
        · next md na hk =>
          obtain ⟨hb, h⟩ := bif_s h
          split at h
          · next v S1 hq => simp only [hk, hb, cond_true, hc _ _ _ _ hq]; exact ih _ _ _ _ _ h
          · next S1 hq => simp only [hk, hb, cond_true, hc _ _ _ _ hq]; exact ih _ _ _ _ _ h
          · exact nomatch h
        · next md na hk =>
          obtain ⟨hb, h⟩ := bif_s h
          split at h
          · next v S1 hq => simp only [hk, hb, cond_true, hc _ _ _ _ hq]; exact ih _ _ _ _ _ h
          · next S1 hq => simp only [hk, hb, cond_true, hc _ _ _ _ hq]; exact ih _ _ _ _ _ h
          · exact nomatch h
        · next x1 x2 hk =>
          split at h
          · obtain ⟨hb, h⟩ := bif_s h
            split at h
            · next S1 hq => simp only [hk, hb, cond_true, hq]; exact ih _ _ _ _ _ h
            · exact nomatch h
          · exact nomatch h
        · next x1 x2 hk =>
          split at h
          · obtain ⟨hb, h⟩ := bif_s h
            simp only [hk, hb, cond_true]; exact ih _ _ _ _ _ h
          · exact nomatch h
        · next x1 x2 hk =>
          split at h
          · obtain ⟨hb, h⟩ := bif_s h
            simp only [hk, hb, cond_true]; exact ih _ _ _ _ _ h
          · exact nomatch h
        · next x1 x2 hk =>
          split at h
          · obtain ⟨hb, h⟩ := bif_s h
            simp only [hk, hb, cond_true]; exact ih _ _ _ _ _ h
          · exact nomatch h
        · exact nomatch h
      case ireturn => exact h
      case lreturn => exact h
      case areturn => exact h
      case return_ => exact h
      all_goals
        dsimp only at h ⊢
        split at h
        · next hq => first | exact ih _ _ _ _ _ h | (simp only [hq]; exact ih _ _ _ _ _ h)
        · exact nomatch h
theorem evd_mono {lay : Nat → Nat × Nat} {F F2 : Nat} (hF : F ≤ F2) : ∀ (d d2 : Nat), d ≤ d2 → calLe (evd lay F d) (evd lay F2 d2) := by
  intro d
  induction d with
  | zero => intro d2 _ q av S r h; exact nomatch (show (none : Option (Option Value × sS)) = some r from h)
  | succ d ih =>
    intro d2 h2 q av S r h
    obtain ⟨d2, rfl⟩ : ∃ k, d2 = k + 1 := ⟨d2 - 1, by omega⟩
    unfold evd at h ⊢
    cases hb : Nat.beq q.2.2.2.2.1 99 with
    | true => rw [hb] at h; exact h
    | false =>
      rw [hb] at h
      simp only [cond_false] at h ⊢
      obtain ⟨hw, h⟩ := bif_s h
      rw [hw]
      exact run_mono (ih d2 (by omega)) F F2 hF _ _ _ _ _ h
def calALe (c1 c2 : calA) : Prop := ∀ q av S n ss r, c1 q av S n ss = some r → c2 q av S n ss = some r
theorem runA_mono {lay : Nat → Nat × Nat} {fL : Nat → Option (Nat × Nat × Bool)} {cL : Nat → Option Value} {kL : Nat → Option (Nat × mT × Nat)} {cC : Nat → Option Nat} {kI : Nat → Option (Nat × mT × Nat)} {ow nL : Nat} {ret : Option FieldType} {sc : Bool} {L : Nat} {xs : Nat → Int32} {code : List (Nat × Instr)} {c1 c2 : Nat → cal} {a1 a2 : calA} (hc : ∀ n, calLe (c1 n) (c2 n)) (ha : calALe a1 a2) : ∀ (F F2 : Nat), F ≤ F2 → ∀ n ss pc lv st S r, runA lay fL cL kL cC kI ow nL ret sc L xs c1 a1 code F n ss pc lv st S = some r → runA lay fL cL kL cC kI ow nL ret sc L xs c2 a2 code F2 n ss pc lv st S = some r := by
  intro F
  induction F with
  | zero => intro F2 _ n ss pc lv st S r h; exact nomatch (show (none : Option (Option Value × sS × Nat × Nat)) = some r from h)
  | succ F ih0 =>
    intro F2 h2 n ss pc lv st S r h
    obtain ⟨F2, rfl⟩ : ∃ k, F2 = k + 1 := ⟨F2 - 1, by omega⟩
    have ih := ih0 F2 (by omega)
    unfold runA at h ⊢
    cases hl : lk code pc with
    | none => rw [hl] at h; exact nomatch (show (none : Option (Option Value × sS × Nat × Nat)) = some r from h)
    | some i =>
      rw [hl] at h
      cases i
      case invokespecial ix =>
        dsimp only at h ⊢
        split at h
        · next x1 x2 hk =>
          split at h
          · obtain ⟨hb, h⟩ := bif_s h
            simp only [hk, hb, cond_true]; exact ih _ _ _ _ _ _ _ h
          · exact nomatch h
        · next md na hk =>
          obtain ⟨hb, h⟩ := bif_s h
          split at h
          · next S1 n1 ss1 hq => simp only [hk, hb, cond_true, ha _ _ _ _ _ _ hq]; exact ih _ _ _ _ _ _ _ h
          · exact nomatch h
        · next md na hk =>
          obtain ⟨hb, h⟩ := bif_s h
          split at h
          · next S1 n1 ss1 hq => simp only [hk, hb, cond_true, ha _ _ _ _ _ _ hq]; exact ih _ _ _ _ _ _ _ h
          · exact nomatch h
        · exact nomatch h
      case invokevirtual ix =>
        dsimp only at h ⊢
        split at h
        · next md na hk =>
          obtain ⟨hb, h⟩ := bif_s h
          split at h
          · next v S1 hq => simp only [hk, hb, cond_true, hc _ _ _ _ _ hq]; exact ih _ _ _ _ _ _ _ h
          · next S1 hq => simp only [hk, hb, cond_true, hc _ _ _ _ _ hq]; exact ih _ _ _ _ _ _ _ h
          · exact nomatch h
        · next md na hk =>
          obtain ⟨hb, h⟩ := bif_s h
          split at h
          · next v S1 hq => simp only [hk, hb, cond_true, hc _ _ _ _ _ hq]; exact ih _ _ _ _ _ _ _ h
          · next S1 hq => simp only [hk, hb, cond_true, hc _ _ _ _ _ hq]; exact ih _ _ _ _ _ _ _ h
          · exact nomatch h
        · exact nomatch h
      case invokestatic ix =>
        dsimp only at h ⊢
        split at h
        · next md na hk =>
          obtain ⟨hb, h⟩ := bif_s h
          split at h
          · next v S1 hq => simp only [hk, hb, cond_true, hc _ _ _ _ _ hq]; exact ih _ _ _ _ _ _ _ h
          · next S1 hq => simp only [hk, hb, cond_true, hc _ _ _ _ _ hq]; exact ih _ _ _ _ _ _ _ h
          · exact nomatch h
        · next md na hk =>
          obtain ⟨hb, h⟩ := bif_s h
          split at h
          · next v S1 hq => simp only [hk, hb, cond_true, hc _ _ _ _ _ hq]; exact ih _ _ _ _ _ _ _ h
          · next S1 hq => simp only [hk, hb, cond_true, hc _ _ _ _ _ hq]; exact ih _ _ _ _ _ _ _ h
          · exact nomatch h
        · exact nomatch h
      case ireturn => exact h
      case return_ => exact h
      all_goals
        dsimp only at h ⊢
        split at h
        · next hq => first | exact ih _ _ _ _ _ _ _ h | (simp only [hq]; exact ih _ _ _ _ _ _ _ h)
        · next hq =>
          split at h
          · next hr => first | exact ih _ _ _ _ _ _ _ h | (simp only [hr]; exact ih _ _ _ _ _ _ _ h) | (simp only [hq, hr]; exact ih _ _ _ _ _ _ _ h) | (simp only [hq]; exact ih _ _ _ _ _ _ _ h)
          · exact nomatch h
theorem evA_mono {lay : Nat → Nat × Nat} {F F2 : Nat} (hF : F ≤ F2) : ∀ (d d2 : Nat), d ≤ d2 → calALe (evA lay F d) (evA lay F2 d2) := by
  intro d
  induction d with
  | zero => intro d2 _ q av S n ss r h; exact nomatch (show (none : Option (Option Value × sS × Nat × Nat)) = some r from h)
  | succ d ih =>
    intro d2 h2 q av S n ss r h
    obtain ⟨d2, rfl⟩ : ∃ k, d2 = k + 1 := ⟨d2 - 1, by omega⟩
    unfold evA at h ⊢
    obtain ⟨hw, h⟩ := bif_s h
    rw [hw]
    simp only [cond_true] at h ⊢
    split at h
    · next hq => rw [runA_mono (fun n => evd_mono hF d d2 (by omega)) (ih d2 (by omega)) F F2 hF _ _ _ _ _ _ _ hq]; exact h
    · exact nomatch h


