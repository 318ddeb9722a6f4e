/-! SAFETY, the core: branches, fields, rows, calls, ends -/
theorem i32_lt {x y : Int} (hx : rg x) (hy : rg y) : (Int32.ofInt x < Int32.ofInt y) ↔ x < y := by rw [Int32.lt_iff_toInt_lt, toI hx, toI hy]
theorem i32_le {x y : Int} (hx : rg x) (hy : rg y) : (Int32.ofInt x ≤ Int32.ofInt y) ↔ x ≤ y := by rw [Int32.le_iff_toInt_le, toI hx, toI hy]
theorem i32_eq {x y : Int} (hx : rg x) (hy : rg y) : (Int32.ofInt x = Int32.ofInt y) ↔ x = y := by
  constructor
  · intro h
    have e := congrArg Int32.toInt h
    rwa [toI hx, toI hy] at e
  · intro h; rw [h]
theorem rg0 : rg 0 := by unfold rg; omega
def isI (ty : FieldType) : Bool := match ty with
  | .long => false
  | .object _ => false
  | .array _ => false
  | _ => true
def isR (ty : FieldType) : Bool := match ty with
  | .object _ => true
  | .array _ => true
  | _ => false
theorem sv_I {ty : FieldType} {i : Int32} {j : Int64} {r : Option Nat} (h : isI ty = true) : sv ty i j r = .int i := by cases ty <;> first | rfl | cases h
theorem sv_R {ty : FieldType} {i : Int32} {j : Int64} {r : Option Nat} (h : isR ty = true) : sv ty i j r = rv r := by cases ty <;> first | rfl | cases h
theorem inb_i {x : Int} {n : Nat} (h0 : 0 ≤ x) (h1 : x < n) (hx : rg x) : inb (Int32.ofInt x) n = true := by
  have e := toI hx
  have z : ¬ (Int32.ofInt x < 0) := by
    intro q
    rw [Int32.lt_iff_toInt_lt, e] at q
    have : (0 : Int32).toInt = 0 := rfl
    omega
  unfold inb
  refine decide_eq_true (fun q => ?_)
  rcases q with q | q
  · exact z q
  · have e2 : (Int32.ofInt x).toNatClampNeg = x.toNat := by unfold Int32.toNatClampNeg; rw [e]
    rw [e2] at q
    omega
theorem ix_i {x : Int} (hx : rg x) : (Int32.ofInt x).toNatClampNeg = x.toNat := by unfold Int32.toNatClampNeg; rw [toI hx]
section SAFE
variable {lay : Nat → Nat × Nat} {d pc : Nat} {q : mT} {L : List (Nat × Value)} {st : List Value} {S : sS} {Q : pst}
theorem cn_lt {x y : Int} (hx : rg x) (hy : rg y) : cnd .lt (Int32.ofInt x) (Int32.ofInt y) = decide (x < y) := by unfold cnd; exact decide_eq_decide.mpr (i32_lt hx hy)
theorem l_icmp_lt {x y off : Int} {t : Nat} (hc : lk q.2.2.2.2.2 pc = some (.if_icmp .lt off)) (ht : jm pc off = some t) (hx : rg x) (hy : rg y) (h1 : x < y → Rl lay d q t L st S Q) (h2 : y ≤ x → Rl lay d q (pc + 3) L st S Q) : Rl lay d q pc L (iv y :: iv x :: st) S Q := by
  by_cases z : x < y
  · exact Rl_s hc rfl (fun lv ha => ⟨lv, by
      show (match jm pc off with | some t => bif cnd .lt (Int32.ofInt x) (Int32.ofInt y) then some (t, lv, st, S) else some (pc + 3, lv, st, S) | none => none) = _
      rw [ht, cn_lt hx hy, decide_eq_true z]; rfl, ha⟩) (h1 z)
  · exact Rl_s hc rfl (fun lv ha => ⟨lv, by
      show (match jm pc off with | some t => bif cnd .lt (Int32.ofInt x) (Int32.ofInt y) then some (t, lv, st, S) else some (pc + 3, lv, st, S) | none => none) = _
      rw [ht, cn_lt hx hy, decide_eq_false z]; rfl, ha⟩) (h2 (Int.not_lt.mp z))
theorem l_if_lt {x off : Int} {t : Nat} (hc : lk q.2.2.2.2.2 pc = some (.ifCond .lt off)) (ht : jm pc off = some t) (hx : rg x) (h1 : x < 0 → Rl lay d q t L st S Q) (h2 : 0 ≤ x → Rl lay d q (pc + 3) L st S Q) : Rl lay d q pc L (iv x :: st) S Q := by
  by_cases z : x < 0
  · exact Rl_s hc rfl (fun lv ha => ⟨lv, by
      show (match jm pc off with | some t => bif cnd .lt (Int32.ofInt x) (Int32.ofInt 0) then some (t, lv, st, S) else some (pc + 3, lv, st, S) | none => none) = _
      rw [ht, cn_lt hx rg0, decide_eq_true z]; rfl, ha⟩) (h1 z)
  · exact Rl_s hc rfl (fun lv ha => ⟨lv, by
      show (match jm pc off with | some t => bif cnd .lt (Int32.ofInt x) (Int32.ofInt 0) then some (t, lv, st, S) else some (pc + 3, lv, st, S) | none => none) = _
      rw [ht, cn_lt hx rg0, decide_eq_false z]; rfl, ha⟩) (h2 (Int.not_lt.mp z))
theorem cn_ge {x y : Int} (hx : rg x) (hy : rg y) : cnd .ge (Int32.ofInt x) (Int32.ofInt y) = decide (y ≤ x) := by unfold cnd; exact decide_eq_decide.mpr (i32_le hy hx)
theorem l_icmp_ge {x y off : Int} {t : Nat} (hc : lk q.2.2.2.2.2 pc = some (.if_icmp .ge off)) (ht : jm pc off = some t) (hx : rg x) (hy : rg y) (h1 : y ≤ x → Rl lay d q t L st S Q) (h2 : x < y → Rl lay d q (pc + 3) L st S Q) : Rl lay d q pc L (iv y :: iv x :: st) S Q := by
  by_cases z : y ≤ x
  · exact Rl_s hc rfl (fun lv ha => ⟨lv, by
      show (match jm pc off with | some t => bif cnd .ge (Int32.ofInt x) (Int32.ofInt y) then some (t, lv, st, S) else some (pc + 3, lv, st, S) | none => none) = _
      rw [ht, cn_ge hx hy, decide_eq_true z]; rfl, ha⟩) (h1 z)
  · exact Rl_s hc rfl (fun lv ha => ⟨lv, by
      show (match jm pc off with | some t => bif cnd .ge (Int32.ofInt x) (Int32.ofInt y) then some (t, lv, st, S) else some (pc + 3, lv, st, S) | none => none) = _
      rw [ht, cn_ge hx hy, decide_eq_false z]; rfl, ha⟩) (h2 (Int.not_le.mp z))
theorem l_if_ge {x off : Int} {t : Nat} (hc : lk q.2.2.2.2.2 pc = some (.ifCond .ge off)) (ht : jm pc off = some t) (hx : rg x) (h1 : 0 ≤ x → Rl lay d q t L st S Q) (h2 : x < 0 → Rl lay d q (pc + 3) L st S Q) : Rl lay d q pc L (iv x :: st) S Q := by
  by_cases z : 0 ≤ x
  · exact Rl_s hc rfl (fun lv ha => ⟨lv, by
      show (match jm pc off with | some t => bif cnd .ge (Int32.ofInt x) (Int32.ofInt 0) then some (t, lv, st, S) else some (pc + 3, lv, st, S) | none => none) = _
      rw [ht, cn_ge hx rg0, decide_eq_true z]; rfl, ha⟩) (h1 z)
  · exact Rl_s hc rfl (fun lv ha => ⟨lv, by
      show (match jm pc off with | some t => bif cnd .ge (Int32.ofInt x) (Int32.ofInt 0) then some (t, lv, st, S) else some (pc + 3, lv, st, S) | none => none) = _
      rw [ht, cn_ge hx rg0, decide_eq_false z]; rfl, ha⟩) (h2 (Int.not_le.mp z))
theorem cn_gt {x y : Int} (hx : rg x) (hy : rg y) : cnd .gt (Int32.ofInt x) (Int32.ofInt y) = decide (y < x) := by unfold cnd; exact decide_eq_decide.mpr (i32_lt hy hx)
theorem l_icmp_gt {x y off : Int} {t : Nat} (hc : lk q.2.2.2.2.2 pc = some (.if_icmp .gt off)) (ht : jm pc off = some t) (hx : rg x) (hy : rg y) (h1 : y < x → Rl lay d q t L st S Q) (h2 : x ≤ y → Rl lay d q (pc + 3) L st S Q) : Rl lay d q pc L (iv y :: iv x :: st) S Q := by
  by_cases z : y < x
  · exact Rl_s hc rfl (fun lv ha => ⟨lv, by
      show (match jm pc off with | some t => bif cnd .gt (Int32.ofInt x) (Int32.ofInt y) then some (t, lv, st, S) else some (pc + 3, lv, st, S) | none => none) = _
      rw [ht, cn_gt hx hy, decide_eq_true z]; rfl, ha⟩) (h1 z)
  · exact Rl_s hc rfl (fun lv ha => ⟨lv, by
      show (match jm pc off with | some t => bif cnd .gt (Int32.ofInt x) (Int32.ofInt y) then some (t, lv, st, S) else some (pc + 3, lv, st, S) | none => none) = _
      rw [ht, cn_gt hx hy, decide_eq_false z]; rfl, ha⟩) (h2 (Int.not_lt.mp z))
theorem l_if_gt {x off : Int} {t : Nat} (hc : lk q.2.2.2.2.2 pc = some (.ifCond .gt off)) (ht : jm pc off = some t) (hx : rg x) (h1 : 0 < x → Rl lay d q t L st S Q) (h2 : x ≤ 0 → Rl lay d q (pc + 3) L st S Q) : Rl lay d q pc L (iv x :: st) S Q := by
  by_cases z : 0 < x
  · exact Rl_s hc rfl (fun lv ha => ⟨lv, by
      show (match jm pc off with | some t => bif cnd .gt (Int32.ofInt x) (Int32.ofInt 0) then some (t, lv, st, S) else some (pc + 3, lv, st, S) | none => none) = _
      rw [ht, cn_gt hx rg0, decide_eq_true z]; rfl, ha⟩) (h1 z)
  · exact Rl_s hc rfl (fun lv ha => ⟨lv, by
      show (match jm pc off with | some t => bif cnd .gt (Int32.ofInt x) (Int32.ofInt 0) then some (t, lv, st, S) else some (pc + 3, lv, st, S) | none => none) = _
      rw [ht, cn_gt hx rg0, decide_eq_false z]; rfl, ha⟩) (h2 (Int.not_lt.mp z))
theorem cn_le {x y : Int} (hx : rg x) (hy : rg y) : cnd .le (Int32.ofInt x) (Int32.ofInt y) = decide (x ≤ y) := by unfold cnd; exact decide_eq_decide.mpr (i32_le hx hy)
theorem l_icmp_le {x y off : Int} {t : Nat} (hc : lk q.2.2.2.2.2 pc = some (.if_icmp .le off)) (ht : jm pc off = some t) (hx : rg x) (hy : rg y) (h1 : x ≤ y → Rl lay d q t L st S Q) (h2 : y < x → Rl lay d q (pc + 3) L st S Q) : Rl lay d q pc L (iv y :: iv x :: st) S Q := by
  by_cases z : x ≤ y
  · exact Rl_s hc rfl (fun lv ha => ⟨lv, by
      show (match jm pc off with | some t => bif cnd .le (Int32.ofInt x) (Int32.ofInt y) then some (t, lv, st, S) else some (pc + 3, lv, st, S) | none => none) = _
      rw [ht, cn_le hx hy, decide_eq_true z]; rfl, ha⟩) (h1 z)
  · exact Rl_s hc rfl (fun lv ha => ⟨lv, by
      show (match jm pc off with | some t => bif cnd .le (Int32.ofInt x) (Int32.ofInt y) then some (t, lv, st, S) else some (pc + 3, lv, st, S) | none => none) = _
      rw [ht, cn_le hx hy, decide_eq_false z]; rfl, ha⟩) (h2 (Int.not_le.mp z))
theorem l_if_le {x off : Int} {t : Nat} (hc : lk q.2.2.2.2.2 pc = some (.ifCond .le off)) (ht : jm pc off = some t) (hx : rg x) (h1 : x ≤ 0 → Rl lay d q t L st S Q) (h2 : 0 < x → Rl lay d q (pc + 3) L st S Q) : Rl lay d q pc L (iv x :: st) S Q := by
  by_cases z : x ≤ 0
  · exact Rl_s hc rfl (fun lv ha => ⟨lv, by
      show (match jm pc off with | some t => bif cnd .le (Int32.ofInt x) (Int32.ofInt 0) then some (t, lv, st, S) else some (pc + 3, lv, st, S) | none => none) = _
      rw [ht, cn_le hx rg0, decide_eq_true z]; rfl, ha⟩) (h1 z)
  · exact Rl_s hc rfl (fun lv ha => ⟨lv, by
      show (match jm pc off with | some t => bif cnd .le (Int32.ofInt x) (Int32.ofInt 0) then some (t, lv, st, S) else some (pc + 3, lv, st, S) | none => none) = _
      rw [ht, cn_le hx rg0, decide_eq_false z]; rfl, ha⟩) (h2 (Int.not_le.mp z))
theorem cn_eq {x y : Int} (hx : rg x) (hy : rg y) : cnd .eq (Int32.ofInt x) (Int32.ofInt y) = decide (x = y) := by unfold cnd; exact decide_eq_decide.mpr (i32_eq hx hy)
theorem l_icmp_eq {x y off : Int} {t : Nat} (hc : lk q.2.2.2.2.2 pc = some (.if_icmp .eq off)) (ht : jm pc off = some t) (hx : rg x) (hy : rg y) (h1 : x = y → Rl lay d q t L st S Q) (h2 : x ≠ y → Rl lay d q (pc + 3) L st S Q) : Rl lay d q pc L (iv y :: iv x :: st) S Q := by
  by_cases z : x = y
  · exact Rl_s hc rfl (fun lv ha => ⟨lv, by
      show (match jm pc off with | some t => bif cnd .eq (Int32.ofInt x) (Int32.ofInt y) then some (t, lv, st, S) else some (pc + 3, lv, st, S) | none => none) = _
      rw [ht, cn_eq hx hy, decide_eq_true z]; rfl, ha⟩) (h1 z)
  · exact Rl_s hc rfl (fun lv ha => ⟨lv, by
      show (match jm pc off with | some t => bif cnd .eq (Int32.ofInt x) (Int32.ofInt y) then some (t, lv, st, S) else some (pc + 3, lv, st, S) | none => none) = _
      rw [ht, cn_eq hx hy, decide_eq_false z]; rfl, ha⟩) (h2 (z))
theorem l_if_eq {x off : Int} {t : Nat} (hc : lk q.2.2.2.2.2 pc = some (.ifCond .eq off)) (ht : jm pc off = some t) (hx : rg x) (h1 : x = 0 → Rl lay d q t L st S Q) (h2 : x ≠ 0 → Rl lay d q (pc + 3) L st S Q) : Rl lay d q pc L (iv x :: st) S Q := by
  by_cases z : x = 0
  · exact Rl_s hc rfl (fun lv ha => ⟨lv, by
      show (match jm pc off with | some t => bif cnd .eq (Int32.ofInt x) (Int32.ofInt 0) then some (t, lv, st, S) else some (pc + 3, lv, st, S) | none => none) = _
      rw [ht, cn_eq hx rg0, decide_eq_true z]; rfl, ha⟩) (h1 z)
  · exact Rl_s hc rfl (fun lv ha => ⟨lv, by
      show (match jm pc off with | some t => bif cnd .eq (Int32.ofInt x) (Int32.ofInt 0) then some (t, lv, st, S) else some (pc + 3, lv, st, S) | none => none) = _
      rw [ht, cn_eq hx rg0, decide_eq_false z]; rfl, ha⟩) (h2 (z))
theorem cn_ne {x y : Int} (hx : rg x) (hy : rg y) : cnd .ne (Int32.ofInt x) (Int32.ofInt y) = decide (x ≠ y) := by unfold cnd; exact decide_eq_decide.mpr (not_congr (i32_eq hx hy))
theorem l_icmp_ne {x y off : Int} {t : Nat} (hc : lk q.2.2.2.2.2 pc = some (.if_icmp .ne off)) (ht : jm pc off = some t) (hx : rg x) (hy : rg y) (h1 : x ≠ y → Rl lay d q t L st S Q) (h2 : x = y → Rl lay d q (pc + 3) L st S Q) : Rl lay d q pc L (iv y :: iv x :: st) S Q := by
  by_cases z : x ≠ y
  · exact Rl_s hc rfl (fun lv ha => ⟨lv, by
      show (match jm pc off with | some t => bif cnd .ne (Int32.ofInt x) (Int32.ofInt y) then some (t, lv, st, S) else some (pc + 3, lv, st, S) | none => none) = _
      rw [ht, cn_ne hx hy, decide_eq_true z]; rfl, ha⟩) (h1 z)
  · exact Rl_s hc rfl (fun lv ha => ⟨lv, by
      show (match jm pc off with | some t => bif cnd .ne (Int32.ofInt x) (Int32.ofInt y) then some (t, lv, st, S) else some (pc + 3, lv, st, S) | none => none) = _
      rw [ht, cn_ne hx hy, decide_eq_false z]; rfl, ha⟩) (h2 (Decidable.not_not.mp z))
theorem l_if_ne {x off : Int} {t : Nat} (hc : lk q.2.2.2.2.2 pc = some (.ifCond .ne off)) (ht : jm pc off = some t) (hx : rg x) (h1 : x ≠ 0 → Rl lay d q t L st S Q) (h2 : x = 0 → Rl lay d q (pc + 3) L st S Q) : Rl lay d q pc L (iv x :: st) S Q := by
  by_cases z : x ≠ 0
  · exact Rl_s hc rfl (fun lv ha => ⟨lv, by
      show (match jm pc off with | some t => bif cnd .ne (Int32.ofInt x) (Int32.ofInt 0) then some (t, lv, st, S) else some (pc + 3, lv, st, S) | none => none) = _
      rw [ht, cn_ne hx rg0, decide_eq_true z]; rfl, ha⟩) (h1 z)
  · exact Rl_s hc rfl (fun lv ha => ⟨lv, by
      show (match jm pc off with | some t => bif cnd .ne (Int32.ofInt x) (Int32.ofInt 0) then some (t, lv, st, S) else some (pc + 3, lv, st, S) | none => none) = _
      rw [ht, cn_ne hx rg0, decide_eq_false z]; rfl, ha⟩) (h2 (Decidable.not_not.mp z))
theorem l_goto {off : Int} {t : Nat} (hc : lk q.2.2.2.2.2 pc = some (.goto off)) (ht : jm pc off = some t) (h : Rl lay d q t L st S Q) : Rl lay d q pc L st S Q :=
  Rl_s hc rfl (fun lv ha => ⟨lv, by show (match jm pc off with | some t => some (t, lv, st, S) | none => none) = _; rw [ht], ha⟩) h
theorem l_gfi {ix ci j k : Nat} {b : Bool} (hc : lk q.2.2.2.2.2 pc = some (.getfield ix)) (hf : fLs q.2.2.2.2.1 ix = some (ci, j, b)) (h9 : Nat.blt ci 90 = true) (hl : layIs lay k 0 ci = true) (ht : isI (fT ci j) = true) (h : Rl lay d q (pc + 3) L (iv (Xi S k j) :: st) S Q) : Rl lay d q pc L (.ref k :: st) S Q :=
  Rl_s hc rfl (fun lv ha => ⟨lv, by
    show (match fLs q.2.2.2.2.1 ix with
      | some (ci, j, _) => bif Nat.blt ci 90 then (bif layIs lay k 0 ci then some (pc + 3, lv, sv (fT ci j) (S.1 k j) (S.2.1 k j) (S.2.2 k j) :: st, S) else none) else (bif Nat.beq ci 90 && (Nat.ble SB k && (strT[k - SB]?).isSome) then some (pc + 3, lv, (bif Nat.beq j 0 then Value.ref (SV + (k - SB)) else Value.int 0) :: st, S) else none)
      | none => none) = _
    rw [hf]
    show (bif Nat.blt ci 90 then (bif layIs lay k 0 ci then some (pc + 3, lv, sv (fT ci j) (S.1 k j) (S.2.1 k j) (S.2.2 k j) :: st, S) else none) else _) = _
    rw [h9, hl, sv_I ht, Xi_iv]; rfl, ha⟩) h
theorem l_gfr {ix ci j k a : Nat} {b : Bool} (hc : lk q.2.2.2.2.2 pc = some (.getfield ix)) (hf : fLs q.2.2.2.2.1 ix = some (ci, j, b)) (h9 : Nat.blt ci 90 = true) (hl : layIs lay k 0 ci = true) (ht : isR (fT ci j) = true) (hr : S.2.2 k j = some a) (h : Rl lay d q (pc + 3) L (.ref a :: st) S Q) : Rl lay d q pc L (.ref k :: st) S Q :=
  Rl_s hc rfl (fun lv ha => ⟨lv, by
    show (match fLs q.2.2.2.2.1 ix with
      | some (ci, j, _) => bif Nat.blt ci 90 then (bif layIs lay k 0 ci then some (pc + 3, lv, sv (fT ci j) (S.1 k j) (S.2.1 k j) (S.2.2 k j) :: st, S) else none) else (bif Nat.beq ci 90 && (Nat.ble SB k && (strT[k - SB]?).isSome) then some (pc + 3, lv, (bif Nat.beq j 0 then Value.ref (SV + (k - SB)) else Value.int 0) :: st, S) else none)
      | none => none) = _
    rw [hf]
    show (bif Nat.blt ci 90 then (bif layIs lay k 0 ci then some (pc + 3, lv, sv (fT ci j) (S.1 k j) (S.2.1 k j) (S.2.2 k j) :: st, S) else none) else _) = _
    rw [h9, hl, sv_R ht, hr]; rfl, ha⟩) h
theorem pf_go {ix ci j k : Nat} {v : Value} {S1 : sS} (hc : lk q.2.2.2.2.2 pc = some (.putfield ix)) (hf : fLs q.2.2.2.2.1 ix = some (ci, j, false)) (h9 : (Nat.blt ci 90 && (layIs lay k 0 ci && !(gF ci j))) = true) (hp : pF S ci k j v = some S1) (h : Rl lay d q (pc + 3) L st S1 Q) : Rl lay d q pc L (v :: .ref k :: st) S Q :=
  Rl_s hc rfl (fun lv ha => ⟨lv, by
    show (match fLs q.2.2.2.2.1 ix with
      | some (ci, j, false) => bif Nat.blt ci 90 && (layIs lay k 0 ci && !(gF ci j)) then (match pF S ci k j v with
        | some S1 => some (pc + 3, lv, st, S1)
        | none => none) else none
      | _ => none) = _
    rw [hf]
    show (bif Nat.blt ci 90 && (layIs lay k 0 ci && !(gF ci j)) then (match pF S ci k j v with
        | some S1 => some (pc + 3, lv, st, S1)
        | none => none) else none) = _
    rw [h9, hp]; rfl, ha⟩) h
theorem l_pfi {ix ci j k : Nat} {x : Int} (hc : lk q.2.2.2.2.2 pc = some (.putfield ix)) (hf : fLs q.2.2.2.2.1 ix = some (ci, j, false)) (h9 : (Nat.blt ci 90 && (layIs lay k 0 ci && !(gF ci j))) = true) (ht : fT ci j = .int) (h : Rl lay d q (pc + 3) L st (uI S k j (Int32.ofInt x)) Q) : Rl lay d q pc L (iv x :: .ref k :: st) S Q :=
  pf_go hc hf h9 (by unfold pF; rw [ht]; rfl) h
theorem l_pfz {ix ci j k : Nat} {x : Int} (hc : lk q.2.2.2.2.2 pc = some (.putfield ix)) (hf : fLs q.2.2.2.2.1 ix = some (ci, j, false)) (h9 : (Nat.blt ci 90 && (layIs lay k 0 ci && !(gF ci j))) = true) (ht : fT ci j = .boolean) (hx : x = 0 ∨ x = 1) (h : Rl lay d q (pc + 3) L st (uI S k j (Int32.ofInt x)) Q) : Rl lay d q pc L (iv x :: .ref k :: st) S Q :=
  pf_go hc hf h9 (by unfold pF; rw [ht]; rcases hx with rfl | rfl <;> rfl) h
theorem l_pfr {ix ci j k a : Nat} {ty : FieldType} (hc : lk q.2.2.2.2.2 pc = some (.putfield ix)) (hf : fLs q.2.2.2.2.1 ix = some (ci, j, false)) (h9 : (Nat.blt ci 90 && (layIs lay k 0 ci && !(gF ci j))) = true) (ht : fT ci j = .array ty) (h : Rl lay d q (pc + 3) L st (uR S k j (some a)) Q) : Rl lay d q pc L (.ref a :: .ref k :: st) S Q :=
  pf_go hc hf h9 (by unfold pF; rw [ht]) h
theorem l_iaload {k n : Nat} {x : Int} (hc : lk q.2.2.2.2.2 pc = some .iaload) (hl : lay k = (1, n)) (h0 : 0 ≤ x) (h1 : x < n) (hx : rg x) (h : Rl lay d q (pc + 1) L (iv (Xi S k x.toNat) :: st) S Q) : Rl lay d q pc L (iv x :: .ref k :: st) S Q :=
  Rl_s hc rfl (fun lv ha => ⟨lv, by
    show (bif Nat.beq (lay k).1 1 && inb (Int32.ofInt x) (lay k).2 then some (pc + 1, lv, Value.int (S.1 k (Int32.ofInt x).toNatClampNeg) :: st, S) else none) = _
    rw [hl, inb_i h0 h1 hx, ix_i hx, Xi_iv]; rfl, ha⟩) h
theorem l_laload {k n : Nat} {x : Int} (hc : lk q.2.2.2.2.2 pc = some .laload) (hl : lay k = (2, n)) (h0 : 0 ≤ x) (h1 : x < n) (hx : rg x) (h : Rl lay d q (pc + 1) L (jw (Xj S k x.toNat) :: st) S Q) : Rl lay d q pc L (iv x :: .ref k :: st) S Q :=
  Rl_s hc rfl (fun lv ha => ⟨lv, by
    show (bif Nat.beq (lay k).1 2 && inb (Int32.ofInt x) (lay k).2 then some (pc + 1, lv, Value.long (S.2.1 k (Int32.ofInt x).toNatClampNeg) :: st, S) else none) = _
    rw [hl, inb_i h0 h1 hx, ix_i hx, Xj_jw]; rfl, ha⟩) h
theorem l_baload {k n t : Nat} {x : Int} (hc : lk q.2.2.2.2.2 pc = some .baload) (hv : Nat.ble SV k = false) (hl : lay k = (t, n)) (ht : t = 3 ∨ t = 4) (h0 : 0 ≤ x) (h1 : x < n) (hx : rg x) (h : Rl lay d q (pc + 1) L (iv (Xi S k x.toNat) :: st) S Q) : Rl lay d q pc L (iv x :: .ref k :: st) S Q :=
  Rl_s hc rfl (fun lv ha => ⟨lv, by
    show (bif Nat.ble SV k then _ else bif (Nat.beq (lay k).1 3 || Nat.beq (lay k).1 4) && inb (Int32.ofInt x) (lay k).2 then some (pc + 1, lv, Value.int (S.1 k (Int32.ofInt x).toNatClampNeg) :: st, S) else none) = _
    rw [hv, hl, inb_i h0 h1 hx, ix_i hx, Xi_iv]; rcases ht with rfl | rfl <;> rfl, ha⟩) h
theorem l_aaload {k n a t : Nat} {x : Int} (hc : lk q.2.2.2.2.2 pc = some .aaload) (hl : lay k = (t, n)) (ht : t = 5 ∨ t = 6) (h0 : 0 ≤ x) (h1 : x < n) (hx : rg x) (hr : S.2.2 k x.toNat = some a) (h : Rl lay d q (pc + 1) L (.ref a :: st) S Q) : Rl lay d q pc L (iv x :: .ref k :: st) S Q :=
  Rl_s hc rfl (fun lv ha => ⟨lv, by
    show (bif (Nat.beq (lay k).1 5 || Nat.beq (lay k).1 6) && inb (Int32.ofInt x) (lay k).2 then some (pc + 1, lv, rv (S.2.2 k (Int32.ofInt x).toNatClampNeg) :: st, S) else none) = _
    rw [hl, inb_i h0 h1 hx, ix_i hx, hr]; rcases ht with rfl | rfl <;> rfl, ha⟩) h
theorem l_iastore {k n : Nat} {x v : Int} (hc : lk q.2.2.2.2.2 pc = some .iastore) (hl : lay k = (1, n)) (h0 : 0 ≤ x) (h1 : x < n) (hx : rg x) (h : Rl lay d q (pc + 1) L st (uI S k x.toNat (Int32.ofInt v)) Q) : Rl lay d q pc L (iv v :: iv x :: .ref k :: st) S Q :=
  Rl_s hc rfl (fun lv ha => ⟨lv, by
    show (bif Nat.beq (lay k).1 1 && inb (Int32.ofInt x) (lay k).2 then some (pc + 1, lv, st, uI S k (Int32.ofInt x).toNatClampNeg (Int32.ofInt v)) else none) = _
    rw [hl, inb_i h0 h1 hx, ix_i hx]; rfl, ha⟩) h
theorem l_lastore {k n : Nat} {x v : Int} (hc : lk q.2.2.2.2.2 pc = some .lastore) (hl : lay k = (2, n)) (h0 : 0 ≤ x) (h1 : x < n) (hx : rg x) (h : Rl lay d q (pc + 1) L st (uJ S k x.toNat (Int64.ofInt v)) Q) : Rl lay d q pc L (jw v :: iv x :: .ref k :: st) S Q :=
  Rl_s hc rfl (fun lv ha => ⟨lv, by
    show (bif Nat.beq (lay k).1 2 && inb (Int32.ofInt x) (lay k).2 then some (pc + 1, lv, st, uJ S k (Int32.ofInt x).toNatClampNeg (Int64.ofInt v)) else none) = _
    rw [hl, inb_i h0 h1 hx, ix_i hx]; rfl, ha⟩) h
theorem Rn_end {i : Instr} {lv : List (Nat × Value)} {r : Option Value} (h : ∀ F G, run lay (fLs q.2.2.2.2.1) (cLs q.2.2.2.2.1) (kLs q.2.2.2.2.1) q.2.2.1 q.2.2.2.1 (evd lay G d) q.2.2.2.2.2 (F + 1) pc lv st S = some (r, S)) (hq : Q r S) : Rn lay d q pc lv st S Q := by
  refine ⟨1, r, S, fun F G hF _ => ?_, hq⟩
  obtain ⟨F, rfl⟩ : ∃ F1, F = F1 + 1 := ⟨F - 1, by omega⟩
  exact h F G
theorem l_ireturn {x : Int} (hc : lk q.2.2.2.2.2 pc = some .ireturn) (hr : retI q.2.2.2.1 (Int32.ofInt x) = true) (hq : Q (some (iv x)) S) : Rl lay d q pc L [iv x] S Q := fun lv _ =>
  Rn_end (i := .ireturn) (fun F G => by unfold run; rw [hc]; show (bif retI q.2.2.2.1 (Int32.ofInt x) then some (some (Value.int (Int32.ofInt x)), S) else none) = _; rw [hr]; rfl) hq
theorem l_return (hc : lk q.2.2.2.2.2 pc = some .return_) (hr : q.2.2.2.1 = none) (hq : Q none S) : Rl lay d q pc L [] S Q := fun lv _ =>
  Rn_end (i := .return_) (fun F G => by unfold run; rw [hc]; show (match q.2.2.2.1 with | none => some (none, S) | _ => none) = _; rw [hr]) hq
theorem l_lreturn {x : Int} (hc : lk q.2.2.2.2.2 pc = some .lreturn) (hr : q.2.2.2.1 = some .long) (hq : Q (some (jw x)) S) : Rl lay d q pc L [jw x] S Q := fun lv _ =>
  Rn_end (i := .lreturn) (fun F G => by unfold run; rw [hc]; show (match q.2.2.2.1 with | some .long => some (some (Value.long (Int64.ofInt x)), S) | _ => none) = _; rw [hr]; rfl) hq
theorem l_areturn {v : Value} (hc : lk q.2.2.2.2.2 pc = some .areturn) (hr : retA q.2.2.2.1 v = true) (hq : Q (some v) S) : Rl lay d q pc L [v] S Q := fun lv _ =>
  Rn_end (i := .areturn) (fun F G => by unfold run; rw [hc]; show (bif retA q.2.2.2.1 v then some (some v, S) else none) = _; rw [hr]; rfl) hq
theorem l_callV {ix na : Nat} {md : mT} {Q1 : pst} (hc : lk q.2.2.2.2.2 pc = some (.invokevirtual ix)) (hk : kLs q.2.2.2.2.1 ix = some (0, md, na)) (ho : cOk lay md.2.2.2.2.1 na st = true) (hm : Mt lay d md (st.take (na + 1)).reverse S Q1)
    (h : ∀ r S1, Q1 r S1 → Rl lay d q (pc + 3) L (r.toList ++ st.drop (na + 1)) S1 Q) : Rl lay d q pc L st S Q := by
  intro lv ha
  obtain ⟨N, r, S1, hr, hq⟩ := hm
  obtain ⟨N2, r2, S2, hr2, hq2⟩ := h r S1 hq lv ha
  refine ⟨N + N2 + 1, r2, S2, fun F G hF hG => ?_, hq2⟩
  obtain ⟨F, rfl⟩ : ∃ F1, F = F1 + 1 := ⟨F - 1, by omega⟩
  have e1 := hr G (by omega)
  have e2 := hr2 F G (by omega) (by omega)
  unfold run
  rw [hc]
  simp only [hk, ho, e1, cond_true]
  cases r with
  | none => exact e2
  | some v => exact e2
theorem l_callS {ix na kd : Nat} {md : mT} {Q1 : pst} (hc : lk q.2.2.2.2.2 pc = some (.invokestatic ix)) (hk : kLs q.2.2.2.2.1 ix = some (kd, md, na)) (hd : kd = 1 ∨ kd = 3) (ho : cOkS na st = true) (hm : Mt lay d md (st.take na).reverse S Q1)
    (h : ∀ r S1, Q1 r S1 → Rl lay d q (pc + 3) L (r.toList ++ st.drop na) S1 Q) : Rl lay d q pc L st S Q := by
  intro lv ha
  obtain ⟨N, r, S1, hr, hq⟩ := hm
  obtain ⟨N2, r2, S2, hr2, hq2⟩ := h r S1 hq lv ha
  refine ⟨N + N2 + 1, r2, S2, fun F G hF hG => ?_, hq2⟩
  obtain ⟨F, rfl⟩ : ∃ F1, F = F1 + 1 := ⟨F - 1, by omega⟩
  have e1 := hr G (by omega)
  have e2 := hr2 F G (by omega) (by omega)
  unfold run
  rw [hc]
  rcases hd with rfl | rfl
  · simp only [hk, ho, e1, cond_true]
    cases r with
    | none => exact e2
    | some v => exact e2
  · simp only [hk, ho, e1, cond_true]
    cases r with
    | none => exact e2
    | some v => exact e2
theorem Mt_R {av : List Value} (h9 : Nat.beq q.2.2.2.2.1 99 = false) (hw : Nat.ble (wds av) q.2.2.1 = true) (h : Rl lay d q 0 (lv_args 0 av) [] S Q) : Mt lay (d + 1) q av S Q := by
  obtain ⟨N, r, S1, hr, hq⟩ := h _ (fun j v hj => hj)
  refine ⟨N, r, S1, fun G hG => ?_, hq⟩
  rw [evd, h9, hw]
  exact hr G G hG hG
end SAFE


