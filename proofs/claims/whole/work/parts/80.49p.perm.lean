/-! the fresh state, by the other numbers -/
def mvV (v : aV) : aV := match v with
  | .inr (.inr (some a)) => .inr (.inr (some (roC a)))
  | v => v
def mvP (q : Nat × aV) : Nat × aV := (q.1, mvV q.2)
noncomputable def chM (a n : Nat) : Bool := (List.range n).all (fun i => eqC (rdT 10 sT2 (a + i)) ((rdT 10 sR2 (piC (a + i))).map mvP))
theorem chM_0 : chM 0 500 = true := by decide +kernel
theorem chM_1 : chM 500 524 = true := by decide +kernel
theorem chM_ok {k : Nat} (hk : k < 1024) : rdT 10 sT2 k = (rdT 10 sR2 (piC k)).map mvP := by
  by_cases h : k < 500
  · have t := List.all_eq_true.mp chM_0 k (List.mem_range.mpr h)
    rw [Nat.zero_add] at t
    exact eqC_ok _ _ t
  · have t := List.all_eq_true.mp chM_1 (k - 500) (List.mem_range.mpr (by omega))
    rw [show 500 + (k - 500) = k by omega] at t
    exact eqC_ok _ _ t
theorem lkV_mv {j : Nat} : ∀ l : aC, lkV (l.map mvP) j = (lkV l j).map mvV := by
  intro l
  induction l with
  | nil => rfl
  | cons q t ih =>
    obtain ⟨a, x⟩ := q
    show lkV ((a, mvV x) :: t.map mvP) j = _
    rw [lkV_cons, lkV_cons]
    cases Nat.beq a j with
    | true => rfl
    | false => exact ih
theorem gC_mv {S : sS} {k j : Nat} {o : Option aV} (h : gC o S (piC k) j) : gC (o.map mvV) (pS S) k j := by
  have e3 : (pS S).2.2 k j = (S.2.2 (piC k) j).map roC := rfl
  match o, h with
  | none, h => exact ⟨h.1, h.2.1, by rw [e3, h.2.2]; rfl⟩
  | some (.inl i), h => exact ⟨h.1, h.2.1, by rw [e3, h.2.2]; rfl⟩
  | some (.inr (.inl v)), h => exact ⟨h.1, h.2.1, by rw [e3, h.2.2]; rfl⟩
  | some (.inr (.inr none)), h => exact ⟨h.1, h.2.1, by rw [e3, h.2.2]; rfl⟩
  | some (.inr (.inr (some a))), h => exact ⟨h.1, h.2.1, by rw [e3, h.2.2]; rfl⟩
theorem gS_pi {S : sS} (h : gS sR2 S) : gS sT2 (pS S) := by
  have p24 : ∀ k, k < 1024 → piC k < 1024 := fun k hk => by have t := piC_c k; omega
  refine ⟨fun k hk => ?_, fun k j => ?_⟩
  · rw [chM_ok hk, List.pairwise_map]
    exact h.1 _ (p24 k hk)
  · by_cases hk : k < 1024
    · have e : lookT sT2 k j = (lookT sR2 (piC k) j).map mvV := by
        unfold lookT
        rw [show Nat.blt k 1024 = true from pblt_t hk, show Nat.blt (piC k) 1024 = true from pblt_t (p24 k hk)]
        show lkV (rdT 10 sT2 k) j = (lkV (rdT 10 sR2 (piC k)) j).map mvV
        rw [chM_ok hk, lkV_mv]
      rw [e]
      exact gC_mv (h.2 _ _)
    · have e : lookT sT2 k j = (lookT sR2 (piC k) j).map mvV := by
        unfold lookT
        rw [show Nat.blt k 1024 = false from pblt_f hk, show Nat.blt (piC k) 1024 = false from pblt_f (by rw [pi_out (by omega)]; exact hk)]
        rfl
      rw [e]
      exact gC_mv (h.2 _ _)
