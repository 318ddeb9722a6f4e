/-! every script of at most four ints -/
theorem ev4_ok {op : Nat} {a b c : aI} (h : ev4 op a b c = true) {xs : Nat → Int32} (h0 : (xs 0 &&& 31).toInt = (op : Int)) (h1 : gI a (xs 1)) (h2 : gI b (xs 2)) (h3 : gI c (xs 3)) : ∃ S1, lawR layF FU DP 4 xs S00 = some (some (.int 1), S1, 996, 142878) := by
  obtain ⟨T, hT⟩ := isT_ok h
  have hrun : alaw layF FU DP 4 [.inr (.ofNat (Nat.succ op), .ofNat op), a, b, c] FU 0 0 0 [(0, .inr (.inr (some SCR)))] [] (eT 10) = some (some (.inl (.inl (.ofNat 1))), T, 996, 142878) := (law_pre ct_1 ct_2 59990 4 _).trans hT
  have hx : ∀ i v, [(.inr (.ofNat (Nat.succ op), .ofNat op) : aI), a, b, c][i]? = some v → gI v (xs i) := by
    intro i v hv
    match i, hv with
    | 0, hv =>
      cases (Option.some.inj hv : _ = v)
      exact ⟨fun z => absurd z (show ¬ (((op + 1 : Nat) : Int) ≤ (op : Int)) by omega), fun _ => h0⟩
    | 1, hv => cases (Option.some.inj hv : _ = v); exact h1
    | 2, hv => cases (Option.some.inj hv : _ = v); exact h2
    | 3, hv => cases (Option.some.inj hv : _ = v); exact h3
    | n + 4, hv => exact nomatch (show (none : Option aI) = some v from hv)
  obtain ⟨r1, S1, q1, q2, -⟩ := alaw_ok hx hrun eT_gS
  cases r1 with
  | none => exact q2.elim
  | some w =>
    obtain ⟨x, rfl, hx1⟩ := q2
    have hx1 : x.toInt = Int.ofNat 1 := hx1
    have e : x = 1 := Int32.toInt_inj.mp (hx1.trans rfl)
    subst e
    exact ⟨S1, q1⟩
theorem ev0_ok {L : Nat} (h : ev0 L = true) (xs : Nat → Int32) : ∃ S1, lawR layF FU DP L xs S00 = some (some (.int 1), S1, 996, 142878) := by
  obtain ⟨T, hT⟩ := isT_ok h
  have hrun : alaw layF FU DP L [] FU 0 0 0 [(0, .inr (.inr (some SCR)))] [] (eT 10) = some (some (.inl (.inl (.ofNat 1))), T, 996, 142878) := (law_pre ct_1 ct_2 59990 L _).trans hT
  obtain ⟨r1, S1, q1, q2, -⟩ := alaw_ok (xs := xs) (fun i a z => nomatch (show (none : Option aI) = some a from z)) hrun eT_gS
  cases r1 with
  | none => exact q2.elim
  | some w =>
    obtain ⟨x, rfl, hx1⟩ := q2
    have hx1 : x.toInt = Int.ofNat 1 := hx1
    have e : x = 1 := Int32.toInt_inj.mp (hx1.trans rfl)
    subst e
    exact ⟨S1, q1⟩
theorem op_ok {op : Nat} {l : bxT} (hc : covB l = true) (he : bx1 (ev4 op) l = true) {xs : Nat → Int32} (h0 : (xs 0 &&& 31).toInt = (op : Int)) : ∃ S1, lawR layF FU DP 4 xs S00 = some (some (.int 1), S1, 996, 142878) := by
  obtain ⟨a, b, c, h1, h2, h3, h⟩ := bx_ok hc he (xs 1) (xs 2) (xs 3)
  exact ev4_ok h h0 h1 h2 h3
theorem first_all {L : Nat} (hL : L ≤ 4) (xs : Nat → Int32) : ∃ S1, lawR layF FU DP L xs S00 = some (some (.int 1), S1, 996, 142878) := by
  match L, hL with
  | 0, _ => exact ev0_ok b0_0 xs
  | 1, _ => exact ev0_ok b0_1 xs
  | 2, _ => exact ev0_ok b0_2 xs
  | 3, _ => exact ev0_ok b0_3 xs
  | 4, _ =>
    obtain ⟨k, hk, h0⟩ := and31 (xs 0)
    match k, hk, h0 with
    | 0, _, h0 => exact op_ok bc_0 be_0 h0
    | 1, _, h0 => exact op_ok bc_1 be_1 h0
    | 2, _, h0 => exact op_ok bc_x be_2 h0
    | 3, _, h0 => exact op_ok bc_3 be_3 h0
    | 4, _, h0 => exact op_ok bc_4 be_4 h0
    | 5, _, h0 => exact op_ok bc_5 be_5 h0
    | 6, _, h0 => exact op_ok bc_6 be_6 h0
    | 7, _, h0 => exact op_ok bc_7 be_7 h0
    | 8, _, h0 => exact op_ok bc_8 be_8 h0
    | 9, _, h0 => exact op_ok bc_9 be_9 h0
    | 10, _, h0 => exact op_ok bc_10 be_10 h0
    | 11, _, h0 => exact op_ok bc_11 be_11 h0
    | 12, _, h0 => exact op_ok bc_12 be_12 h0
    | 13, _, h0 => exact op_ok bc_13 be_13 h0
    | 14, _, h0 => exact op_ok bc_14 be_14 h0
    | 15, _, h0 => exact op_ok bc_15 be_15 h0
    | 16, _, h0 => exact op_ok bc_16 be_16 h0
    | 17, _, h0 => exact op_ok bc_17 be_17 h0
    | 18, _, h0 => exact op_ok bc_18 be_18 h0
    | 19, _, h0 => exact op_ok bc_x be_19 h0
    | 20, _, h0 => exact op_ok bc_x be_20 h0
    | 21, _, h0 => exact op_ok bc_x be_21 h0
    | 22, _, h0 => exact op_ok bc_x be_22 h0
    | 23, _, h0 => exact op_ok bc_x be_23 h0
    | 24, _, h0 => exact op_ok bc_x be_24 h0
    | 25, _, h0 => exact op_ok bc_x be_25 h0
    | 26, _, h0 => exact op_ok bc_x be_26 h0
    | 27, _, h0 => exact op_ok bc_x be_27 h0
    | 28, _, h0 => exact op_ok bc_x be_28 h0
    | 29, _, h0 => exact op_ok bc_x be_29 h0
    | 30, _, h0 => exact op_ok bc_x be_30 h0
    | 31, _, h0 => exact op_ok bc_x be_31 h0
    | k + 32, hk, _ => exact absurd hk (by omega)
  | n + 5, h => exact absurd h (by omega)
