/-! whole methods of the small machine, by depth; what they answer, the JVM answers -/
def wds (av : List Value) : Nat := (av.map (fun v => v.category)).sum
theorem wds_len : ∀ (vs : List Value), (lg_sl vs).length = wds vs := by
  intro vs
  induction vs with
  | nil => rfl
  | cons v r ih =>
    have e : lg_sl (v :: r) = (if v.category = 2 then [Slot.val v, Slot.second] else [Slot.val v]) ++ lg_sl r := by simp [lg_sl]
    rw [e, List.length_append, ih]
    show _ = wds (v :: r)
    unfold wds
    rw [List.map_cons, List.sum_cons]
    rcases lv_cat v with h | h
    · simp [h]
    · simp [h]
theorem wds_tr {ad : Nat → Nat} {vs : List Value} : wds (vs.map (trV ad)) = wds vs := by
  unfold wds
  rw [List.map_map]
  have e : ((fun v : Value => v.category) ∘ trV ad) = fun v : Value => v.category := funext fun v => trV_cat
  rw [e]
theorem lv_args_tr {ad : Nat → Nat} : ∀ (vs : List Value) (k : Nat), lv_args k (vs.map (trV ad)) = (lv_args k vs).map (trL ad) := by
  intro vs
  induction vs with
  | nil => intro k; rfl
  | cons v r ih =>
    intro k
    show (k, trV ad v) :: lv_args (if (trV ad v).category = 2 then k + 2 else k + 1) (r.map (trV ad)) = _
    rw [trV_cat, ih]
    rfl
def ckI (av : List Value) (S : sS) : Option (Option Value × sS) := match av with
  | [.int x, .int n] => bif decide (¬ x < 0) && decide (x < n) then some (none, S) else none
  | _ => none
def evd (lay : Nat → Nat × Nat) (F : Nat) : Nat → mT → List Value → sS → Option (Option Value × sS)
  | 0, _, _, _ => none
  | d + 1, q, av, S => bif Nat.beq q.2.2.2.2.1 99 then ckI av S else bif Nat.ble (wds av) q.2.2.1 then run lay (fLs q.2.2.2.2.1) (cLs q.2.2.2.2.1) (kLs q.2.2.2.2.1) q.2.2.1 q.2.2.2.1 (evd lay F d) q.2.2.2.2.2 F 0 (lv_args 0 av) [] S else none
section EV
variable {l : Launch} {D : va_G} {lay : Nat → Nat × Nat} {nc : Nat} {ad ca : Nat → Nat}
theorem evd_ok (hlay : ∀ k, (lay k).1 < 7 → k < nc) {F : Nat} : ∀ (d : Nat) (q : mT), MOk q → ∀ (av : List Value) (S : sS) (r : Option Value) (S1 : sS), evd lay F d q av S = some (r, S1) → sM l D lay nc ad ca q.1 q.2.1 q.2.2.1 q.2.2.2.1 d av S r S1 := by
  intro d
  induction d with
  | zero => intro q _ av S r S1 h; exact nomatch (show (none : Option (Option Value × sS)) = some _ from h)
  | succ d ih =>
    intro q hq av S r S1 h
    unfold evd at h
    obtain ⟨hy, ⟨hown, hdok, h99⟩ | rfl⟩ := hq
    · have h99' : Nat.beq q.2.2.2.2.1 99 = false := by
        cases hb : Nat.beq q.2.2.2.2.1 99 with
        | false => rfl
        | true =>
          have e := Nat.eq_of_beq_eq_true hb
          have e2 : q.2.2.2.2.1 < 99 := Nat.le_of_ble_eq_true h99
          omega
      rw [h99'] at h
      obtain ⟨hw, h⟩ := bif_s (show (bif Nat.ble (wds av) q.2.2.1 then _ else none) = some _ from h)
      refine sMR_of (av := av.map (trV ad)) hy (by rw [wds_len, wds_tr]; exact Nat.le_of_ble_eq_true hw) (fun p e s m below meth c ls G B hr hlocks hl => ?_)
      exact run_ok G hdok hlay (fun ix ci j b z => hown ▸ fLs_ok ix ci j b z) (fun ix v z => hown ▸ cLs_ok ix v z) (fun ix kd md na z => hown ▸ kLs_ok ix kd md na z) ih hr hlocks ⟨Nat.le_refl _, Nat.le_refl _⟩ ⟨Nat.zero_le _, Nat.zero_le _⟩ F 0 _ [] S h ls s.heap [] (by rw [← lv_args_tr]; exact hl) B
    · have h : ckI av S = some (r, S1) := h
      unfold ckI at h
      split at h
      · next x n =>
        obtain ⟨hb, h⟩ := bif_s h
        rw [Bool.and_eq_true, decide_eq_true_eq, decide_eq_true_eq] at hb
        cases h
        exact c_js_checkIndex hb.1 hb.2
      · cases h
end EV


