/-! THE FRESH STATE HAS ALL THAT HOLDS BETWEEN CALLS -/
def zkR (r : Int × Int) : Bool := decide (r.1 ≤ 0) && decide (0 ≤ r.2)
theorem zkR_i {r : Int × Int} (h : zkR r = true) : r.1 ≤ 0 ∧ 0 ≤ r.2 := by
  unfold zkR at h
  rw [Bool.and_eq_true, decide_eq_true_eq, decide_eq_true_eq] at h
  exact h
theorem zkR_D {l : List (Int × Int)} (h : l.all zkR = true) (j : Nat) : zkR (l.getD j fullR) = true := by
  rw [List.getD_eq_getElem?_getD]
  cases e : l[j]? with
  | none => rfl
  | some r => exact List.all_eq_true.mp h r (List.mem_of_getElem? e)
theorem zkR_b {c : Bool} {x y : Int × Int} (h1 : zkR x = true) (h2 : zkR y = true) : zkR (bif c then x else y) = true := by cases c <;> assumption
theorem all_b {α : Type} {p : α → Bool} {c : Bool} {x y : List α} (h1 : x.all p = true) (h2 : y.all p = true) : (bif c then x else y).all p = true := by cases c <;> assumption
theorem lhC_0 {l : List (Nat × List (Int × Int))} (h : l.all (fun q => q.2.all zkR) = true) (k j : Nat) : zkR (lhC l k j) = true := by
  unfold lhC
  split
  · next r e => exact List.all_eq_true.mp (List.all_eq_true.mp h _ (lkp_mem e)) r (by simp)
  · next rs _ e => exact zkR_D (List.all_eq_true.mp h _ (lkp_mem e)) j
  · rfl
theorem lBs_0 (k : Nat) : (lBs k).all (fun q => q.2.all zkR) = true := by
  unfold lBs
  exact all_b (all_b (all_b (all_b (by decide +kernel) (by decide +kernel)) (by decide +kernel)) (all_b (all_b (by decide +kernel) (by decide +kernel)) (by decide +kernel))) (all_b (all_b (all_b (by decide +kernel) (by decide +kernel)) (by decide +kernel)) (all_b (all_b (by decide +kernel) (by decide +kernel)) (by decide +kernel)))
theorem lhM_0 (j : Nat) : zkR (lhM j) = true := by
  unfold lhM
  exact zkR_b (zkR_b (zkR_b (zkR_D (by decide +kernel) _) (zkR_D (by decide +kernel) _)) (zkR_b (zkR_D (by decide +kernel) _) (zkR_D (by decide +kernel) _))) (zkR_b (zkR_b (zkR_D (by decide +kernel) _) (zkR_D (by decide +kernel) _)) (zkR_D (by decide +kernel) _))
theorem lhA_0 (k j : Nat) : zkR (lhA k j) = true := zkR_b (lhC_0 (by decide +kernel) k j) (zkR_b (lhM_0 j) (lhC_0 (lBs_0 k) k j))
theorem lh_0 (k j : Nat) : zkR (lh k j) = true := zkR_b (lhA_0 k j) (zkR_b rfl (zkR_b (lhA_0 k j) (zkR_b (zkR_D (by decide +kernel) j) (zkR_b (lhA_0 k j) (zkR_b (zkR_D (by decide +kernel) j) (lhA_0 k j))))))
theorem lkV_mem {j : Nat} {v : aV} : ∀ {l : aC}, lkV l j = some v → (j, v) ∈ l := by
  intro l
  induction l with
  | nil => intro h; exact nomatch (show (none : Option aV) = some v from h)
  | cons q r ih =>
    intro h
    obtain ⟨a, x⟩ := q
    have h : (bif Nat.beq a j then some x else lkV r j) = some v := h
    cases e : Nat.beq a j with
    | true =>
      rw [e] at h
      have e1 : x = v := Option.some.inj h
      have e2 : a = j := Nat.eq_of_beq_eq_true e
      subst e1; subst e2
      exact List.mem_cons_self
    | false => rw [e] at h; exact List.mem_cons_of_mem _ (ih h)
theorem look_mem {T : aT} {k j : Nat} {v : aV} (h : lookT T k j = some v) : k < 1024 ∧ (j, v) ∈ rdT 10 T k := by
  unfold lookT at h
  cases e : Nat.blt k 1024 with
  | true => rw [e] at h; exact ⟨Nat.le_of_ble_eq_true e, lkV_mem h⟩
  | false => rw [e] at h; exact nomatch (show (none : Option aV) = some v from h)
def chE (k : Nat) (p : Nat × aV) : Bool := match p.2 with
  | .inl (.inl z) => decide ((lh k p.1).1 ≤ z) && decide (z ≤ (lh k p.1).2)
  | .inl (.inr _) => false
  | .inr _ => true
noncomputable def chT (a b : Nat) : Bool := (List.range (b - a)).all (fun i => (rdT 10 sT2 (a + i)).all (chE (a + i)))
theorem chT_0 : chT 0 250 = true := by decide +kernel
theorem chT_1 : chT 250 904 = true := by decide +kernel
theorem chT_2 : chT 904 950 = true := by decide +kernel
theorem chT_3 : chT 950 1024 = true := by decide +kernel
theorem chT_at {a b k : Nat} (h : chT a b = true) (h1 : a ≤ k) (h2 : k < b) {p : Nat × aV} (hp : p ∈ rdT 10 sT2 k) : chE k p = true := by
  have t := List.all_eq_true.mp h (k - a) (List.mem_range.mpr (by omega))
  try dsimp only at t
  rw [show a + (k - a) = k by omega] at t
  exact List.all_eq_true.mp t p hp
theorem chT_ok {k : Nat} (hk : k < 1024) {p : Nat × aV} (hp : p ∈ rdT 10 sT2 k) : chE k p = true := by
  by_cases a : k < 250
  · exact chT_at chT_0 (by omega) a hp
  by_cases b : k < 904
  · exact chT_at chT_1 (by omega) b hp
  by_cases c : k < 950
  · exact chT_at chT_2 (by omega) c hp
  · exact chT_at chT_3 (by omega) hk hp
/-- an int of the fresh state -/
noncomputable def vT (k j : Nat) : Int := match lookT sT2 k j with
  | some (.inl (.inl z)) => z
  | _ => 0
section FRESH
variable {S : sS}
theorem gs_v (h : gS sT2 S) (k j : Nat) : Xi S k j = vT k j := by
  have g := h.2 k j
  unfold vT
  cases e : lookT sT2 k j with
  | none => rw [e] at g; unfold Xi; rw [g.1]; rfl
  | some v =>
    rw [e] at g
    obtain ⟨hk, hm⟩ := look_mem e
    have c := chT_ok hk hm
    match v, g, c with
    | .inl (.inl z), g, _ => exact g.1
    | .inl (.inr _), _, c => exact nomatch (show false = true from c)
    | .inr (.inl _), g, _ => unfold Xi; rw [g.1]; rfl
    | .inr (.inr _), g, _ => unfold Xi; rw [g.1]; rfl
theorem fr_CI (h : gS sT2 S) : CI S := fun k j => by
  have l0 := zkR_i (lh_0 k j)
  rw [gs_v h]
  unfold vT
  cases e : lookT sT2 k j with
  | none => exact l0
  | some v =>
    obtain ⟨hk, hm⟩ := look_mem e
    have c := chT_ok hk hm
    match v, c with
    | .inl (.inl z), c =>
      have c : (decide ((lh k j).1 ≤ z) && decide (z ≤ (lh k j).2)) = true := c
      rw [Bool.and_eq_true, decide_eq_true_eq, decide_eq_true_eq] at c
      exact c
    | .inl (.inr _), c => exact nomatch (show false = true from c)
    | .inr _, _ => exact l0
/-- a reference of the fresh state -/
noncomputable def rf2 (k j a : Nat) : Bool := match lookT sT2 k j with
  | some (.inr (.inr (some b))) => Nat.beq b a
  | _ => false
theorem rf2_ok (h : gS sT2 S) {k j a : Nat} (e : rf2 k j a = true) : S.2.2 k j = some a := by
  have g := h.2 k j
  unfold rf2 at e
  split at e
  · next b hb => rw [hb] at g; rw [← Nat.eq_of_beq_eq_true e]; exact g.2.2
  · exact nomatch e
theorem rTl_ok : rTl.all (fun q => rf2 (q.1 / 256) (q.1 % 256) q.2) = true := by decide +kernel
theorem rM_ok (j : Nat) : (rM j).all (fun q => rf2 904 q.1 q.2) = true := by
  unfold rM
  exact all_b (all_b (all_b (by decide +kernel) (by decide +kernel)) (all_b (by decide +kernel) (by decide +kernel))) (all_b (all_b (by decide +kernel) (by decide +kernel)) (by decide +kernel))
theorem rRw_ok : rRw.all (fun q => (List.range q.2.2).all (fun i => rf2 q.1 i (q.2.1 + i))) = true := by decide +kernel
theorem fr_HI (h : gS sT2 S) : HI S := by
  refine ⟨⟨fun k j a e => ?_, fun q hq i hi => ?_, ⟨902, rf2_ok h (by decide +kernel), Or.inl rfl⟩, ⟨903, rf2_ok h (by decide +kernel), Or.inr rfl⟩, ⟨245, rf2_ok h (by decide +kernel), Or.inl rfl⟩, ⟨881, rf2_ok h (by decide +kernel), Or.inl rfl⟩, ⟨0, rf2_ok h (by decide +kernel), by decide⟩⟩, fr_CI h⟩
  · unfold rT at e
    cases e1 : Nat.blt j 256 with
    | false => rw [e1] at e; exact nomatch (show (none : Option Nat) = some a from e)
    | true =>
      rw [e1] at e
      have hj : j < 256 := Nat.le_of_ble_eq_true e1
      cases e2 : Nat.beq k 904 with
      | true =>
        rw [e2] at e
        have hk := Nat.eq_of_beq_eq_true e2
        subst hk
        exact rf2_ok h (List.all_eq_true.mp (rM_ok j) _ (lkp_mem e))
      | false =>
        rw [e2] at e
        have t := List.all_eq_true.mp rTl_ok _ (lkp_mem e)
        try dsimp only at t
        rw [show (k * 256 + j) / 256 = k by omega, show (k * 256 + j) % 256 = j by omega] at t
        exact rf2_ok h t
  · exact rf2_ok h (List.all_eq_true.mp (List.all_eq_true.mp rRw_ok q hq) i (List.mem_range.mpr hi))
theorem fr_z {k : Nat} (h : gS sT2 S) (e : (rdT 10 sT2 k).isEmpty = true) (j : Nat) : Xi S k j = 0 := by
  rw [gs_v h]
  unfold vT
  cases q : lookT sT2 k j with
  | none => rfl
  | some v =>
    have m := (look_mem q).2
    rw [List.isEmpty_iff.mp e] at m
    exact nomatch m
theorem fr_LEX (h : gS sT2 S) : LEX S := fun i hi => by
  unfold lexB
  simp only [gs_v h] at hi ⊢
  have b : vT 1 3 ≤ 40 := by decide +kernel
  have hb : i < 40 := by omega
  exact ⟨(by decide +kernel : ∀ i : Nat, i < 40 → (i : Int) < vT 1 3 → 0 ≤ vT 4 i) i hb hi, (by decide +kernel : ∀ i : Nat, i < 40 → (i : Int) < vT 1 3 → vT 3 i = 0 → vT 4 i < vT 5 0) i hb hi, (by decide +kernel : ∀ i : Nat, i < 40 → (i : Int) < vT 1 3 → vT 3 i = 1 → vT 4 i < vT 5 1) i hb hi, (by decide +kernel : ∀ i : Nat, i < 40 → (i : Int) < vT 1 3 → vT 3 i = 2 → vT 4 i < vT 5 2) i hb hi, (by decide +kernel : ∀ i : Nat, i < 40 → (i : Int) < vT 1 3 → vT 3 i = 3 → vT 4 i < vT 5 3) i hb hi, (by decide +kernel : ∀ i : Nat, i < 40 → (i : Int) < vT 1 3 → vT 3 i = 4 → vT 4 i < vT 5 4) i hb hi, (by decide +kernel : ∀ i : Nat, i < 40 → (i : Int) < vT 1 3 → vT 3 i = 5 → vT 4 i < vT 5 5) i hb hi, (by decide +kernel : ∀ i : Nat, i < 40 → (i : Int) < vT 1 3 → vT 3 i = 6 → vT 4 i < vT 5 6) i hb hi, (by decide +kernel : ∀ i : Nat, i < 40 → (i : Int) < vT 1 3 → vT 3 i = 7 → vT 4 i < vT 5 7) i hb hi, (by decide +kernel : ∀ i : Nat, i < 40 → (i : Int) < vT 1 3 → vT 3 i = 8 → vT 4 i < vT 5 8) i hb hi, (by decide +kernel : ∀ i : Nat, i < 40 → (i : Int) < vT 1 3 → vT 3 i = 11 → vT 4 i < vT 5 0) i hb hi, (by decide +kernel : ∀ i : Nat, i < 40 → (i : Int) < vT 1 3 → vT 3 i = 12 → vT 4 i < vT 5 1) i hb hi, (by decide +kernel : ∀ i : Nat, i < 40 → (i : Int) < vT 1 3 → vT 3 i = 13 → vT 4 i < vT 5 7) i hb hi, (by decide +kernel : ∀ i : Nat, i < 40 → (i : Int) < vT 1 3 → vT 3 i = 14 → vT 4 i ≤ 5) i hb hi, (by decide +kernel : ∀ i : Nat, i < 40 → (i : Int) < vT 1 3 → vT 3 i ≠ 9) i hb hi, (by decide +kernel : ∀ i : Nat, i < 40 → (i : Int) < vT 1 3 → vT 3 i ≠ 10) i hb hi⟩
theorem fr_TX (h : gS sT2 S) : TX S := fun r p hr hp hk => absurd (by
  rw [gs_v h]
  exact (by decide +kernel : ∀ r : Nat, r < 40 → ∀ p : Nat, p < 12 → vT (66 + r) p = 0) r hr p hp) hk
theorem fr_DEF (h : gS sT2 S) : DEF S := fun a ha hc => by
  rw [gs_v h] at ha hc
  have b : vT 5 3 ≤ 2 := by decide +kernel
  exact absurd hc ((by decide +kernel : ∀ a : Nat, a < 2 → vT 11 a ≠ -1) a (by omega))
theorem fr_RUL (h : gS sT2 S) : RUL S := fun i hi => by
  rw [gs_v h, show vT 246 2 = 0 from by decide +kernel] at hi
  omega
theorem fr_ORD (h : gS sT2 S) : ORD S := fun i hi => by
  rw [gs_v h, show vT 246 2 = 0 from by decide +kernel] at hi
  omega
theorem fr_CMD (h : gS sT2 S) : CMD S := fun i hi => by
  simp only [gs_v h] at hi ⊢
  have b : vT 882 3 ≤ 20 := by decide +kernel
  exact (by decide +kernel : ∀ i : Nat, i < 20 → (i : Int) < vT 882 3 → vT 883 i < vT 5 8 ∧ (vT 885 i = -1 → vT 19 (vT 883 i).toNat = -1) ∧ (vT 19 (vT 883 i).toNat = -2 → vT 886 i = -2)) i (by omega) hi
theorem fr_AK (h : gS sT2 S) : AK S := by
  unfold AK
  simp only [gs_v h]
  decide +kernel
theorem fr_WI (h : gS sT2 S) : WI S := by
  refine ⟨fr_LEX h, fr_TX h, fr_DEF h, fr_RUL h, fr_CMD h, fr_AK h, ?_, fun t => ?_⟩
  · unfold CC
    simp only [gs_v h]
    decide +kernel
  · unfold vals
    rw [gs_v h, show vT 5 4 = 0 from by decide +kernel]
    show (0 : Int) ≤ 8
    decide
theorem fr_CLI (h : gS sT2 S) : CLI S 902 903 := by
  have e : S.2.2 20 1 = some 245 := rf2_ok h (by decide +kernel)
  have et : txr S = 245 := by unfold txr; rw [e]; rfl
  exact ⟨⟨rf2_ok h (by decide +kernel), rf2_ok h (by decide +kernel), Or.inl rfl, Or.inr rfl, by decide, by rw [et]; decide, by rw [et]; decide⟩, fr_WI h, fr_ORD h⟩
theorem fr_TXM (h : gS sT2 S) : TXM S := by
  refine ⟨fun o h0 h1 => ?_, fun o p _ _ _ _ q => absurd (fr_z h (by decide +kernel) _) q, fun o p _ _ _ _ q => absurd (fr_z h (by decide +kernel) _) q⟩
  rw [gs_v h, show vT 904 19 = 1 from by decide +kernel] at h1
  rw [show o.toNat = 0 by omega, gs_v h, gs_v h]
  decide +kernel
theorem fr_TIX (h : gS sT2 S) : TIX S := by
  have e19 : Xi S 904 19 = 1 := (gs_v h _ _).trans (by decide +kernel)
  have e16 : Xi S 904 16 = 5 := (gs_v h _ _).trans (by decide +kernel)
  have e18 : Xi S 904 18 = 2 := (gs_v h _ _).trans (by decide +kernel)
  have e23 : Xi S 904 23 = 2 := (gs_v h _ _).trans (by decide +kernel)
  have e30 : Xi S 904 30 = 0 := (gs_v h _ _).trans (by decide +kernel)
  have e32 : Xi S 904 32 = 1 := (gs_v h _ _).trans (by decide +kernel)
  have e41 : Xi S 904 41 = 0 := (gs_v h _ _).trans (by decide +kernel)
  have e47 : Xi S 904 47 = 0 := (gs_v h _ _).trans (by decide +kernel)
  have e49 : Xi S 904 49 = 5 := (gs_v h _ _).trans (by decide +kernel)
  have e51 : Xi S 904 51 = 0 := (gs_v h _ _).trans (by decide +kernel)
  have e15 : Xi S 904 15 ≤ 27 := by rw [gs_v h]; decide +kernel
  have e60 : Xi S 904 60 = -1 := (gs_v h _ _).trans (by decide +kernel)
  have n0 : Xi S 904 117 = 0 ∧ Xi S 904 125 = 0 ∧ Xi S 904 130 = 0 := ⟨(gs_v h _ _).trans (by decide +kernel), (gs_v h _ _).trans (by decide +kernel), (gs_v h _ _).trans (by decide +kernel)⟩
  have d0 : ∀ a : Nat, Xi S 924 a = 0 := fun a => fr_z h (by decide +kernel) a
  refine ⟨fr_TXM h, fun o _ q => absurd (fr_z h (by decide +kernel) o) q, fun k hk => ?_, lcn_0 (by omega) (by omega) (by omega), fun k hk => ?_, fun a ha _ => ?_, fun v hv => absurd hv (by omega), fun t _ => ?_, fun i j _ hj => absurd hj (by omega), rdt_0 (by omega) n0 (fun a _ => d0 a), ?_, by omega, by omega⟩
  · unfold cM
    simp only [gs_v h] at hk ⊢
    have b : vT 904 15 ≤ 40 := by decide +kernel
    exact (by decide +kernel : ∀ k : Nat, k < 40 → (k : Int) < vT 904 15 → vT 915 k < (if vT 914 k = 0 ∨ vT 914 k = 1 then vT 904 16 else if vT 914 k = 2 ∨ vT 914 k = 3 then vT 904 18 else if vT 914 k = 4 then vT 904 19 else if vT 914 k = 5 then vT 904 23 else if vT 914 k = 6 then vT 904 30 else if vT 914 k = 7 then vT 904 32 else if vT 914 k = 8 then vT 904 41 else if vT 914 k = 9 ∨ vT 914 k = 10 then vT 904 47 else if vT 914 k = 11 then vT 904 49 else 6)) k (by omega) hk
  · rw [gs_v h]
    exact (by decide +kernel : ∀ k : Nat, k < 16 → vT 917 k < (k : Int)) k hk
  · rw [gs_v h]
    exact (by decide +kernel : ∀ a : Nat, a < 2 → vT 922 a ≠ -1) a (by omega)
  · rw [e30]
    show (0 : Int) ≤ 8
    decide
  · unfold AKR
    simp only [gs_v h]
    decide +kernel
noncomputable def jT (k j : Nat) : Int := match lookT sT2 k j with
  | some (.inr (.inl (some z))) => z
  | _ => -1
theorem gs_j (h : gS sT2 S) {k j : Nat} {b : Int} (hb : 0 ≤ b) (e : b ≤ jT k j) : b ≤ Xj S k j := by
  have g := h.2 k j
  unfold jT at e
  split at e
  · next z hz => rw [hz] at g; unfold Xj; rw [g.2.1]; exact e
  · omega
theorem fr_KWM (h : gS sT2 S) : KWM S := fun k h1 h2 h3 => by
  refine gs_j h (by decide) ?_
  have t : ∀ i : Nat, i < 55 → (i = 16 ∨ i = 35 ∨ (37 ≤ i ∧ i ≤ 41) ∨ (43 ≤ i ∧ i ≤ 49)) → 1024 ≤ jT 911 i := by decide +kernel
  exact t (k - 100).toNat (by omega) (by unfold K3 at h3; omega)
theorem fr_INV (h : gS sT2 S) : INV S ∧ Xi S 0 10 = Xi S 904 1 := by
  refine ⟨⟨fr_HI h, ⟨902, 903, fr_CLI h⟩, fr_TIX h, fun j => ?_, ?_, fr_KWM h⟩, ?_⟩
  · rw [fr_z h (by decide +kernel)]; decide
  · unfold BDA
    rw [gs_v h]
    decide +kernel
  · rw [gs_v h, gs_v h]
    decide +kernel
end FRESH


