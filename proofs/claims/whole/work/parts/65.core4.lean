/-! SAFETY: longs, bits, division, switches, what the JDK does -/
theorem i64_lt {x y : Int} (hx : rgL x) (hy : rgL y) : (Int64.ofInt x < Int64.ofInt y) ↔ x < y := by rw [Int64.lt_iff_toInt_lt, toJ hx, toJ hy]
theorem i64_eq {x y : Int} (hx : rgL x) (hy : rgL y) : (Int64.ofInt x = Int64.ofInt y) ↔ x = y := by
  constructor
  · intro h
    have e := congrArg Int64.toInt h
    rwa [toJ hx, toJ hy] at e
  · intro h; rw [h]
theorem ofI_toI {v : Int32} : Int32.ofInt v.toInt = v := Int32.ofInt_toInt v
theorem ofJ_toJ {v : Int64} : Int64.ofInt v.toInt = v := Int64.ofInt_toInt v
theorem rg_toI {v : Int32} : rg v.toInt := ⟨Int32.le_toInt _, Int32.toInt_lt _⟩
theorem rgL_toJ {v : Int64} : rgL v.toInt := ⟨Int64.le_toInt _, Int64.toInt_lt _⟩
theorem shr8 {x : Int} (hx : rg x) : Int32.ofInt x >>> (Int32.ofInt 8 &&& 31) = Int32.ofInt (x / 256) := by
  have e : (Int32.ofInt 8 &&& 31 : Int32) = 8 := rfl
  rw [e]
  have h1 : (Int32.ofInt x >>> (8 : Int32)).toInt = x / 256 := by
    show ((Int32.ofInt x).toBitVec.sshiftRight' ((8 : Int32).toBitVec.smod 32)).toInt = _
    have e2 : ((8 : Int32).toBitVec.smod 32) = 8#32 := by decide
    rw [e2]
    show ((Int32.ofInt x).toBitVec.sshiftRight 8).toInt = _
    rw [BitVec.toInt_sshiftRight]
    show (Int32.ofInt x).toInt >>> 8 = _
    rw [toI hx, Int.shiftRight_eq_div_pow]
    rfl
  rw [← ofI_toI (v := Int32.ofInt x >>> (8 : Int32)), h1]
theorem and_bnd {x y : Int} (hy : 0 ≤ y) (hy2 : rg y) : 0 ≤ (Int32.ofInt x &&& Int32.ofInt y).toInt ∧ (Int32.ofInt x &&& Int32.ofInt y).toInt ≤ y := by
  have e : (Int32.ofInt y).toInt = y := toI hy2
  have m0 : (Int32.ofInt y).toBitVec.toInt = y := e
  have hm : (Int32.ofInt y).toBitVec.msb = false := by
    cases h : (Int32.ofInt y).toBitVec.msb with
    | false => rfl
    | true =>
      have := BitVec.toInt_neg_iff.mpr (by
        have := BitVec.msb_eq_true_iff_two_mul_ge.mp h
        exact this)
      omega
  have hn : ((Int32.ofInt y).toBitVec.toNat : Int) = y := by
    have t := BitVec.toInt_eq_toNat_of_msb hm
    rw [t] at m0
    exact m0
  have hm2 : ((Int32.ofInt x).toBitVec &&& (Int32.ofInt y).toBitVec).msb = false := by rw [BitVec.msb_and, hm, Bool.and_false]
  have e3 : (Int32.ofInt x &&& Int32.ofInt y).toInt = (((Int32.ofInt x).toBitVec &&& (Int32.ofInt y).toBitVec).toNat : Int) := by
    show ((Int32.ofInt x).toBitVec &&& (Int32.ofInt y).toBitVec).toInt = _
    rw [BitVec.toInt_eq_toNat_of_msb hm2]
  have hle : ((Int32.ofInt x).toBitVec &&& (Int32.ofInt y).toBitVec).toNat ≤ (Int32.ofInt y).toBitVec.toNat := by rw [BitVec.toNat_and]; exact Nat.and_le_right
  rw [e3]
  omega
theorem and255 {x : Int} (hx : rg x) : (Int32.ofInt x &&& Int32.ofInt 255) = Int32.ofInt (x % 256) := by
  have h1 : (Int32.ofInt x &&& Int32.ofInt 255).toInt = x % 256 := by
    have b := and_bnd (x := x) (y := 255) (by omega) (by unfold rg; omega)
    have e3 : ((Int32.ofInt x &&& Int32.ofInt 255).toInt) = (((Int32.ofInt x).toBitVec &&& (Int32.ofInt 255).toBitVec).toNat : Int) := by
      show ((Int32.ofInt x).toBitVec &&& (Int32.ofInt 255).toBitVec).toInt = _
      refine BitVec.toInt_eq_toNat_of_msb ?_
      rw [BitVec.msb_and]
      have : (Int32.ofInt 255).toBitVec.msb = false := by decide
      rw [this, Bool.and_false]
    rw [e3, BitVec.toNat_and]
    have e4 : (Int32.ofInt 255).toBitVec.toNat = 2 ^ 8 - 1 := by decide
    rw [e4, Nat.and_two_pow_sub_one_eq_mod]
    have e5 : ((Int32.ofInt x).toBitVec.toNat : Int) = x % 4294967296 := by
      show ((BitVec.ofInt 32 x).toNat : Int) = _
      rw [BitVec.toNat_ofInt]
      omega
    omega
  rw [← ofI_toI (v := Int32.ofInt x &&& Int32.ofInt 255), h1]
section SAFE
variable {d pc : Nat} {q : mT} {L : List (Nat × Value)} {st : List Value} {S : sS} {Q : pst} {lay : Nat → Nat × Nat}
theorem l_lcmp {x y : Int} (hc : lk q.2.2.2.2.2 pc = some .lcmp) (hx : rgL x) (hy : rgL y) (h : ∀ c : Int, (-1 ≤ c ∧ c ≤ 1) → (c < 0 → x < y) → (c = 0 → x = y) → (0 < c → y < x) → Rl lay d q (pc + 1) L (iv c :: st) S Q) : Rl lay d q pc L (jw y :: jw x :: st) S Q := by
  have go : ∀ c : Int, lg_cmp (Int64.ofInt x) (Int64.ofInt y) = Int32.ofInt c → Rl lay d q (pc + 1) L (iv c :: st) S Q → Rl lay d q pc L (jw y :: jw x :: st) S Q := fun c e hh =>
    Rl_s hc rfl (fun lv ha => ⟨lv, by
      show some (pc + 1, lv, Value.int (lg_cmp (Int64.ofInt x) (Int64.ofInt y)) :: st, S) = _
      rw [e]; rfl, ha⟩) hh
  rcases Int.lt_trichotomy x y with h1 | h1 | h1
  · refine go (-1) ?_ (h (-1) (by omega) (by omega) (by omega) (by omega))
    unfold lg_cmp
    have a := (i64_lt hx hy).mpr h1
    have b : ¬ (Int64.ofInt y < Int64.ofInt x) := fun z => by have := (i64_lt hy hx).mp z; omega
    have c : ¬ (Int64.ofInt x = Int64.ofInt y) := fun z => by have := (i64_eq hx hy).mp z; omega
    simp [a, b, c]
    try rfl
  · refine go 0 ?_ (h 0 (by omega) (by omega) (by omega) (by omega))
    subst h1
    unfold lg_cmp
    simp
    try rfl
  · refine go 1 ?_ (h 1 (by omega) (by omega) (by omega) (by omega))
    unfold lg_cmp
    have a := (i64_lt hy hx).mpr h1
    have b : ¬ (Int64.ofInt x < Int64.ofInt y) := fun z => by have := (i64_lt hx hy).mp z; omega
    have c : ¬ (Int64.ofInt x = Int64.ofInt y) := fun z => by have := (i64_eq hx hy).mp z; omega
    simp [a, b, c]
    try rfl
theorem l_lcmpA {x y : Int} (hc : lk q.2.2.2.2.2 pc = some .lcmp) (h : ∀ c : Int, (-1 ≤ c ∧ c ≤ 1) → Rl lay d q (pc + 1) L (iv c :: st) S Q) : Rl lay d q pc L (jw y :: jw x :: st) S Q := by
  have go : ∀ c : Int, lg_cmp (Int64.ofInt x) (Int64.ofInt y) = Int32.ofInt c → Rl lay d q (pc + 1) L (iv c :: st) S Q → Rl lay d q pc L (jw y :: jw x :: st) S Q := fun c e hh =>
    Rl_s hc rfl (fun lv ha => ⟨lv, by
      show some (pc + 1, lv, Value.int (lg_cmp (Int64.ofInt x) (Int64.ofInt y)) :: st, S) = _
      rw [e]; rfl, ha⟩) hh
  by_cases a : Int64.ofInt x > Int64.ofInt y
  · exact go 1 (by unfold lg_cmp; simp [a]; try rfl) (h 1 (by omega))
  · by_cases b : Int64.ofInt x = Int64.ofInt y
    · exact go 0 (by unfold lg_cmp; simp [b]; try rfl) (h 0 (by omega))
    · exact go (-1) (by unfold lg_cmp; simp [a, b]; try rfl) (h (-1) (by omega))
theorem l_l2iA {x : Int} (hc : lk q.2.2.2.2.2 pc = some .l2i) (h : ∀ c : Int, (-2147483648 ≤ c ∧ c ≤ 2147483647) → Rl lay d q (pc + 1) L (iv c :: st) S Q) : Rl lay d q pc L (jw x :: st) S Q :=
  Rl_s hc rfl (fun lv ha => ⟨lv, by
    show some (pc + 1, lv, Value.int (Int64.ofInt x).toInt32 :: st, S) = _
    rw [← ofI_toI (v := (Int64.ofInt x).toInt32)]; rfl, ha⟩) (h _ ⟨rg_toI.1, Int.le_of_lt_add_one rg_toI.2⟩)
theorem l_i2l {x : Int} (hc : lk q.2.2.2.2.2 pc = some .i2l) (hx : rg x) (h : Rl lay d q (pc + 1) L (jw x :: st) S Q) : Rl lay d q pc L (iv x :: st) S Q :=
  Rl_s hc rfl (fun lv ha => ⟨lv, by
    show some (pc + 1, lv, Value.long (Int32.ofInt x).toInt64 :: st, S) = _
    have e : (Int32.ofInt x).toInt64 = Int64.ofInt x := by
      rw [← ofJ_toJ (v := (Int32.ofInt x).toInt64), Int32.toInt_toInt64, toI hx]
    rw [e]; rfl, ha⟩) h
theorem l_l2i {x : Int} (hc : lk q.2.2.2.2.2 pc = some .l2i) (h : ∀ c : Int, rg c → (rg x → rgL x → c = x) → Rl lay d q (pc + 1) L (iv c :: st) S Q) : Rl lay d q pc L (jw x :: st) S Q :=
  Rl_s hc rfl (fun lv ha => ⟨lv, by
    show some (pc + 1, lv, Value.int (Int64.ofInt x).toInt32 :: st, S) = _
    rw [← ofI_toI (v := (Int64.ofInt x).toInt32)]; rfl, ha⟩) (h _ rg_toI (fun h1 h2 => by rw [Int64.toInt_toInt32, toJ h2]; exact Int.bmod_eq_of_le (by unfold rg at h1; omega) (by unfold rg at h1; omega)))
theorem l_ldc2 {ix : Nat} {z : Int} (hc : lk q.2.2.2.2.2 pc = some (.ldc2_w ix)) (hz : cLs q.2.2.2.2.1 ix = some (jw z)) (h : Rl lay d q (pc + 3) L (jw z :: st) S Q) : Rl lay d q pc L st S Q :=
  Rl_s hc rfl (fun lv ha => ⟨lv, by
    show (match cLs q.2.2.2.2.1 ix with | some (.long v) => some (pc + 3, lv, Value.long v :: st, S) | _ => none) = _
    rw [hz]; rfl, ha⟩) h
theorem l_ldc {ix : Nat} {z : Int} (hc : lk q.2.2.2.2.2 pc = some (.ldc ix)) (hz : cLs q.2.2.2.2.1 ix = some (iv z)) (h : Rl lay d q (pc + 2) L (iv z :: st) S Q) : Rl lay d q pc L st S Q :=
  Rl_s hc rfl (fun lv ha => ⟨lv, by
    show (match cLs q.2.2.2.2.1 ix with | some (.int v) => some (pc + 2, lv, Value.int v :: st, S) | some (.ref k) => some (pc + 2, lv, Value.ref k :: st, S) | _ => none) = _
    rw [hz]; rfl, ha⟩) h
theorem l_ldcw {ix : Nat} {z : Int} (hc : lk q.2.2.2.2.2 pc = some (.ldc_w ix)) (hz : cLs q.2.2.2.2.1 ix = some (iv z)) (h : Rl lay d q (pc + 3) L (iv z :: st) S Q) : Rl lay d q pc L st S Q :=
  Rl_s hc rfl (fun lv ha => ⟨lv, by
    show (match cLs q.2.2.2.2.1 ix with | some (.int v) => some (pc + 3, lv, Value.int v :: st, S) | some (.ref k) => some (pc + 3, lv, Value.ref k :: st, S) | _ => none) = _
    rw [hz]; rfl, ha⟩) h
theorem l_ixor {x y : Int} (hc : lk q.2.2.2.2.2 pc = some .ixor) (h : ∀ c : Int, (-2147483648 ≤ c ∧ c ≤ 2147483647) → Rl lay d q (pc + 1) L (iv c :: st) S Q) : Rl lay d q pc L (iv y :: iv x :: st) S Q :=
  Rl_s hc rfl (fun lv ha => ⟨lv, by
    show some (pc + 1, lv, Value.int (Int32.ofInt x ^^^ Int32.ofInt y) :: st, S) = _
    rw [← ofI_toI (v := Int32.ofInt x ^^^ Int32.ofInt y)]; rfl, ha⟩) (h _ ⟨rg_toI.1, Int.le_of_lt_add_one rg_toI.2⟩)
theorem l_ishl {x y : Int} (hc : lk q.2.2.2.2.2 pc = some .ishl) (h : ∀ c : Int, (-2147483648 ≤ c ∧ c ≤ 2147483647) → Rl lay d q (pc + 1) L (iv c :: st) S Q) : Rl lay d q pc L (iv y :: iv x :: st) S Q :=
  Rl_s hc rfl (fun lv ha => ⟨lv, by
    show some (pc + 1, lv, Value.int (Int32.ofInt x <<< (Int32.ofInt y &&& 31)) :: st, S) = _
    rw [← ofI_toI (v := Int32.ofInt x <<< (Int32.ofInt y &&& 31))]; rfl, ha⟩) (h _ ⟨rg_toI.1, Int.le_of_lt_add_one rg_toI.2⟩)
theorem l_ishr {x y : Int} (hc : lk q.2.2.2.2.2 pc = some .ishr) (h : ∀ c : Int, (-2147483648 ≤ c ∧ c ≤ 2147483647) → Rl lay d q (pc + 1) L (iv c :: st) S Q) : Rl lay d q pc L (iv y :: iv x :: st) S Q :=
  Rl_s hc rfl (fun lv ha => ⟨lv, by
    show some (pc + 1, lv, Value.int (Int32.ofInt x >>> (Int32.ofInt y &&& 31)) :: st, S) = _
    rw [← ofI_toI (v := Int32.ofInt x >>> (Int32.ofInt y &&& 31))]; rfl, ha⟩) (h _ ⟨rg_toI.1, Int.le_of_lt_add_one rg_toI.2⟩)
theorem l_lor {x y : Int} (hc : lk q.2.2.2.2.2 pc = some .lor) (h : ∀ c : Int, rgL c → Rl lay d q (pc + 1) L (jw c :: st) S Q) : Rl lay d q pc L (jw y :: jw x :: st) S Q :=
  Rl_s hc rfl (fun lv ha => ⟨lv, by
    show some (pc + 1, lv, Value.long (Int64.ofInt x ||| Int64.ofInt y) :: st, S) = _
    rw [← ofJ_toJ (v := Int64.ofInt x ||| Int64.ofInt y)]; rfl, ha⟩) (h _ rgL_toJ)
theorem l_land {x y : Int} (hc : lk q.2.2.2.2.2 pc = some .land) (h : ∀ c : Int, rgL c → Rl lay d q (pc + 1) L (jw c :: st) S Q) : Rl lay d q pc L (jw y :: jw x :: st) S Q :=
  Rl_s hc rfl (fun lv ha => ⟨lv, by
    show some (pc + 1, lv, Value.long (Int64.ofInt x &&& Int64.ofInt y) :: st, S) = _
    rw [← ofJ_toJ (v := Int64.ofInt x &&& Int64.ofInt y)]; rfl, ha⟩) (h _ rgL_toJ)
theorem l_lshl {x y : Int} (hc : lk q.2.2.2.2.2 pc = some .lshl) (h : ∀ c : Int, rgL c → Rl lay d q (pc + 1) L (jw c :: st) S Q) : Rl lay d q pc L (iv y :: jw x :: st) S Q :=
  Rl_s hc rfl (fun lv ha => ⟨lv, by
    show some (pc + 1, lv, Value.long (Int64.ofInt x <<< ((Int32.ofInt y).toInt64 &&& 63)) :: st, S) = _
    rw [← ofJ_toJ (v := Int64.ofInt x <<< ((Int32.ofInt y).toInt64 &&& 63))]; rfl, ha⟩) (h _ rgL_toJ)
theorem l_lshr {x y : Int} (hc : lk q.2.2.2.2.2 pc = some .lshr) (h : ∀ c : Int, rgL c → Rl lay d q (pc + 1) L (jw c :: st) S Q) : Rl lay d q pc L (iv y :: jw x :: st) S Q :=
  Rl_s hc rfl (fun lv ha => ⟨lv, by
    show some (pc + 1, lv, Value.long (Int64.ofInt x >>> ((Int32.ofInt y).toInt64 &&& 63)) :: st, S) = _
    rw [← ofJ_toJ (v := Int64.ofInt x >>> ((Int32.ofInt y).toInt64 &&& 63))]; rfl, ha⟩) (h _ rgL_toJ)
theorem l_lushr {x y : Int} (hc : lk q.2.2.2.2.2 pc = some .lushr) (h : ∀ c : Int, rgL c → Rl lay d q (pc + 1) L (jw c :: st) S Q) : Rl lay d q pc L (iv y :: jw x :: st) S Q :=
  Rl_s hc rfl (fun lv ha => ⟨lv, by
    show some (pc + 1, lv, Value.long ((((Int64.ofInt x).toUInt64 >>> ((Int32.ofInt y).toInt64.toUInt64 &&& Int64.toUInt64 63)).toInt64)) :: st, S) = _
    rw [← ofJ_toJ (v := (((Int64.ofInt x).toUInt64 >>> ((Int32.ofInt y).toInt64.toUInt64 &&& Int64.toUInt64 63)).toInt64))]; rfl, ha⟩) (h _ rgL_toJ)
theorem l_i2b {x : Int} (hc : lk q.2.2.2.2.2 pc = some .i2b) (h : ∀ c : Int, (-2147483648 ≤ c ∧ c ≤ 2147483647) → Rl lay d q (pc + 1) L (iv c :: st) S Q) : Rl lay d q pc L (iv x :: st) S Q :=
  Rl_s hc rfl (fun lv ha => ⟨lv, by
    show some (pc + 1, lv, Value.int ((Int32.ofInt x).toInt8.toInt32) :: st, S) = _
    rw [← ofI_toI (v := (Int32.ofInt x).toInt8.toInt32)]; rfl, ha⟩) (h _ ⟨rg_toI.1, Int.le_of_lt_add_one rg_toI.2⟩)
theorem l_ior {x y : Int} (hc : lk q.2.2.2.2.2 pc = some .ior) (hx : rg x) (hy : rg y) (h : ∀ c : Int, (-2147483648 ≤ c ∧ c ≤ 2147483647) → (0 ≤ x → 0 ≤ y → 0 ≤ c) → Rl lay d q (pc + 1) L (iv c :: st) S Q) : Rl lay d q pc L (iv y :: iv x :: st) S Q :=
  Rl_s hc rfl (fun lv ha => ⟨lv, by
    show some (pc + 1, lv, Value.int (Int32.ofInt x ||| Int32.ofInt y) :: st, S) = _
    rw [← ofI_toI (v := Int32.ofInt x ||| Int32.ofInt y)]; rfl, ha⟩) (h _ ⟨rg_toI.1, Int.le_of_lt_add_one rg_toI.2⟩ (fun h1 h2 => by
      have m : ∀ u : Int, rg u → 0 ≤ u → (Int32.ofInt u).toBitVec.msb = false := fun u hu h0 => by
        cases hh : (Int32.ofInt u).toBitVec.msb with
        | false => rfl
        | true =>
          have t : (Int32.ofInt u).toBitVec.toInt < 0 := BitVec.toInt_neg_iff.mpr (BitVec.msb_eq_true_iff_two_mul_ge.mp hh)
          have t2 : (Int32.ofInt u).toBitVec.toInt = u := toI hu
          omega
      show 0 ≤ ((Int32.ofInt x).toBitVec ||| (Int32.ofInt y).toBitVec).toInt
      rw [BitVec.toInt_eq_toNat_of_msb (by rw [BitVec.msb_or, m x hx h1, m y hy h2]; rfl)]
      omega))
theorem l_ishr8 {x : Int} (hc : lk q.2.2.2.2.2 pc = some .ishr) (hx : rg x) (h : Rl lay d q (pc + 1) L (iv (x / 256) :: st) S Q) : Rl lay d q pc L (iv 8 :: iv x :: st) S Q :=
  Rl_s hc rfl (fun lv ha => ⟨lv, by
    show some (pc + 1, lv, Value.int (Int32.ofInt x >>> (Int32.ofInt 8 &&& 31)) :: st, S) = _
    rw [shr8 hx]; rfl, ha⟩) h
theorem l_iand {x y : Int} (hc : lk q.2.2.2.2.2 pc = some .iand) (hy : 0 ≤ y) (hy2 : rg y) (h : ∀ c : Int, (0 ≤ c ∧ c ≤ y) → Rl lay d q (pc + 1) L (iv c :: st) S Q) : Rl lay d q pc L (iv y :: iv x :: st) S Q :=
  Rl_s hc rfl (fun lv ha => ⟨lv, by
    show some (pc + 1, lv, Value.int (Int32.ofInt x &&& Int32.ofInt y) :: st, S) = _
    unfold iv; rw [ofI_toI], ha⟩) (h (Int32.ofInt x &&& Int32.ofInt y).toInt (and_bnd hy hy2))
theorem l_iandA {x y : Int} (hc : lk q.2.2.2.2.2 pc = some .iand) (h : ∀ c : Int, (-2147483648 ≤ c ∧ c ≤ 2147483647) → Rl lay d q (pc + 1) L (iv c :: st) S Q) : Rl lay d q pc L (iv y :: iv x :: st) S Q :=
  Rl_s hc rfl (fun lv ha => ⟨lv, by
    show some (pc + 1, lv, Value.int (Int32.ofInt x &&& Int32.ofInt y) :: st, S) = _
    rw [← ofI_toI (v := Int32.ofInt x &&& Int32.ofInt y)]; rfl, ha⟩) (h _ ⟨rg_toI.1, Int.le_of_lt_add_one rg_toI.2⟩)
theorem l_iand255 {x : Int} (hc : lk q.2.2.2.2.2 pc = some .iand) (hx : rg x) (h : Rl lay d q (pc + 1) L (iv (x % 256) :: st) S Q) : Rl lay d q pc L (iv 255 :: iv x :: st) S Q :=
  Rl_s hc rfl (fun lv ha => ⟨lv, by
    show some (pc + 1, lv, Value.int (Int32.ofInt x &&& Int32.ofInt 255) :: st, S) = _
    rw [and255 hx]; rfl, ha⟩) h
theorem l_ixor1 {x : Int} (hc : lk q.2.2.2.2.2 pc = some .ixor) (h0 : 0 ≤ x) (h5 : x ≤ 5) (h : ∀ c : Int, (0 ≤ c ∧ c ≤ 5) → Rl lay d q (pc + 1) L (iv c :: st) S Q) : Rl lay d q pc L (iv 1 :: iv x :: st) S Q :=
  Rl_s hc rfl (fun lv ha => ⟨lv, by
    show some (pc + 1, lv, Value.int (Int32.ofInt x ^^^ Int32.ofInt 1) :: st, S) = _
    rw [← ofI_toI (v := Int32.ofInt x ^^^ Int32.ofInt 1)]; rfl, ha⟩) (h _ (by
      have e : x = 0 ∨ x = 1 ∨ x = 2 ∨ x = 3 ∨ x = 4 ∨ x = 5 := by omega
      rcases e with rfl | rfl | rfl | rfl | rfl | rfl <;> decide))
theorem l_iaddW {x y : Int} (hc : lk q.2.2.2.2.2 pc = some .iadd) (h : ∀ c : Int, (-2147483648 ≤ c ∧ c ≤ 2147483647) → Rl lay d q (pc + 1) L (iv c :: st) S Q) : Rl lay d q pc L (iv y :: iv x :: st) S Q :=
  Rl_s hc rfl (fun lv ha => ⟨lv, by
    show some (pc + 1, lv, Value.int (Int32.ofInt x + Int32.ofInt y) :: st, S) = _
    rw [← ofI_toI (v := Int32.ofInt x + Int32.ofInt y)]; rfl, ha⟩) (h _ ⟨rg_toI.1, Int.le_of_lt_add_one rg_toI.2⟩)
theorem l_ineg {x : Int} (hc : lk q.2.2.2.2.2 pc = some .ineg) (h : Rl lay d q (pc + 1) L (iv (-x) :: st) S Q) : Rl lay d q pc L (iv x :: st) S Q :=
  Rl_s hc rfl (fun lv ha => ⟨lv, by
    show some (pc + 1, lv, Value.int (-Int32.ofInt x) :: st, S) = _
    rw [← Int32.ofInt_neg]; rfl, ha⟩) h
def tgs (pc : Nat) : List Int → Option (List Nat)
  | [] => some []
  | o :: r => match jm pc o, tgs pc r with
    | some t, some ts => some (t :: ts)
    | _, _ => none
theorem tgs_at : ∀ {offs : List Int} {ts : List Nat}, tgs pc offs = some ts → ∀ {i : Nat} {o : Int}, offs[i]? = some o → ∃ t, ts[i]? = some t ∧ jm pc o = some t := by
  intro offs
  induction offs with
  | nil => intro ts _ i o h; simp at h
  | cons a r ih =>
    intro ts h i o hi
    unfold tgs at h
    cases h1 : jm pc a with
    | none => rw [h1] at h; cases h
    | some t =>
      cases h2 : tgs pc r with
      | none => rw [h1, h2] at h; cases h
      | some us =>
        rw [h1, h2] at h
        cases h
        cases i with
        | zero => simp at hi; subst hi; exact ⟨t, rfl, h1⟩
        | succ i => obtain ⟨u, a1, a2⟩ := ih h2 (by simpa using hi); exact ⟨u, by simpa using a1, a2⟩
theorem l_tsw {x df lo hi : Int} {offs : Array Int} {t0 : Nat} {ts : List Nat} (hc : lk q.2.2.2.2.2 pc = some (.tableswitch df lo hi offs)) (h0 : jm pc df = some t0) (ht : tgs pc offs.toList = some ts) (hn : (hi - lo + 1).toNat = offs.toList.length) (hx : rg x) (h1 : (x < lo ∨ hi < x) → Rl lay d q t0 L st S Q) (h2 : ∀ (i : Nat) (t : Nat), ts[i]? = some t → x = lo + i → Rl lay d q t L st S Q) : Rl lay d q pc L (iv x :: st) S Q := by
  have e := toI hx
  by_cases z : x < lo ∨ hi < x
  · refine Rl_s hc rfl (fun lv ha => ⟨lv, ?_, ha⟩) (h1 z)
    show (bif decide ((Int32.ofInt x).toInt < lo ∨ hi < (Int32.ofInt x).toInt) then (match jm pc df with
        | some t => some (t, lv, st, S)
        | none => none) else _) = _
    rw [e, decide_eq_true z, h0]; rfl
  · have hi1 : (x - lo).toNat < offs.toList.length := by omega
    obtain ⟨t, a, b⟩ := tgs_at ht (List.getElem?_eq_getElem hi1)
    refine Rl_s hc rfl (fun lv ha => ⟨lv, ?_, ha⟩) (h2 _ t a (by omega))
    show (bif decide ((Int32.ofInt x).toInt < lo ∨ hi < (Int32.ofInt x).toInt) then _ else (match offs[((Int32.ofInt x).toInt - lo).toNat]? with
        | some o => (match jm pc o with
          | some t => some (t, lv, st, S)
          | none => none)
        | none => none)) = _
    rw [e, decide_eq_false z]
    have e2 : offs[(x - lo).toNat]? = some (offs.toList[(x - lo).toNat]) := by
      rw [← Array.getElem?_toList]; exact List.getElem?_eq_getElem hi1
    show (match offs[(x - lo).toNat]? with
        | some o => (match jm pc o with
          | some t => some (t, lv, st, S)
          | none => none)
        | none => none) = _
    rw [e2]
    show (match jm pc (offs.toList[(x - lo).toNat]) with
          | some t => some (t, lv, st, S)
          | none => none) = _
    rw [b]
theorem l_max {ix na : Nat} {md : mT} {x y : Int} (hc : lk q.2.2.2.2.2 pc = some (.invokestatic ix)) (hk : kLs q.2.2.2.2.1 ix = some (10, md, na)) (hs : Nat.ble (st.map (fun v => v.category)).sum 8 = true) (hx : rg x) (hy : rg y) (h : Rl lay d q (pc + 3) L (iv (if x < y then y else x) :: st) S Q) : Rl lay d q pc L (iv y :: iv x :: st) S Q := by
  intro lv ha
  obtain ⟨N, r, S1, hr, hq⟩ := h lv ha
  refine ⟨N + 1, r, S1, fun F G hF hG => ?_, hq⟩
  obtain ⟨F, rfl⟩ : ∃ F1, F = F1 + 1 := ⟨F - 1, by omega⟩
  have e := hr F G (by omega) (by omega)
  unfold run
  rw [hc]
  simp only [hk]
  show (bif Nat.ble (st.map (fun v => v.category)).sum 8 then run lay (fLs q.2.2.2.2.1) (cLs q.2.2.2.2.1) (kLs q.2.2.2.2.1) q.2.2.1 q.2.2.2.1 (evd lay G d) q.2.2.2.2.2 F (pc + 3) lv (.int (if Int32.ofInt x < Int32.ofInt y then Int32.ofInt y else Int32.ofInt x) :: st) S else none) = _
  rw [hs]
  have e2 : (if Int32.ofInt x < Int32.ofInt y then Int32.ofInt y else Int32.ofInt x) = Int32.ofInt (if x < y then y else x) := by
    by_cases z : x < y
    · rw [if_pos z, if_pos ((i32_lt hx hy).mpr z)]
    · rw [if_neg z, if_neg (fun u => z ((i32_lt hx hy).mp u))]
  rw [e2]
  exact e
theorem l_min {ix na : Nat} {md : mT} {x y : Int} (hc : lk q.2.2.2.2.2 pc = some (.invokestatic ix)) (hk : kLs q.2.2.2.2.1 ix = some (11, md, na)) (hs : Nat.ble (st.map (fun v => v.category)).sum 8 = true) (hx : rg x) (hy : rg y) (h : Rl lay d q (pc + 3) L (iv (if y < x then y else x) :: st) S Q) : Rl lay d q pc L (iv y :: iv x :: st) S Q := by
  intro lv ha
  obtain ⟨N, r, S1, hr, hq⟩ := h lv ha
  refine ⟨N + 1, r, S1, fun F G hF hG => ?_, hq⟩
  obtain ⟨F, rfl⟩ : ∃ F1, F = F1 + 1 := ⟨F - 1, by omega⟩
  have e := hr F G (by omega) (by omega)
  unfold run
  rw [hc]
  simp only [hk]
  show (bif Nat.ble (st.map (fun v => v.category)).sum 8 then run lay (fLs q.2.2.2.2.1) (cLs q.2.2.2.2.1) (kLs q.2.2.2.2.1) q.2.2.1 q.2.2.2.1 (evd lay G d) q.2.2.2.2.2 F (pc + 3) lv (.int (if Int32.ofInt y < Int32.ofInt x then Int32.ofInt y else Int32.ofInt x) :: st) S else none) = _
  rw [hs]
  have e2 : (if Int32.ofInt y < Int32.ofInt x then Int32.ofInt y else Int32.ofInt x) = Int32.ofInt (if y < x then y else x) := by
    by_cases z : y < x
    · rw [if_pos z, if_pos ((i32_lt hy hx).mpr z)]
    · rw [if_neg z, if_neg (fun u => z ((i32_lt hy hx).mp u))]
  rw [e2]
  exact e
end SAFE
