/-! SAFETY: longs, bits, division, switches, what the JDK does -/
theorem i64_lt {x y : Int} (hx : rgL x) (hy : rgL y) : (Int64.ofInt x < Int64.ofInt y) ↔ x < y := by rw [Int64.lt_iff_toInt_lt, toJ hx, toJ hy]
theorem i64_eq {x y : Int} (hx : rgL x) (hy : rgL y) : (Int64.ofInt x = Int64.ofInt y) ↔ x = y := by
  constructor
  · intro h
    have e := congrArg Int64.toInt h
    rwa [toJ hx, toJ hy] at e
  · intro h; rw [h]
theorem ofI_toI {v : Int32} : Int32.ofInt v.toInt = v := Int32.ofInt_toInt v
theorem ofJ_toJ {v : Int64} : Int64.ofInt v.toInt = v := Int64.ofInt_toInt v
theorem rg_toI {v : Int32} : rg v.toInt := ⟨Int32.le_toInt _, Int32.toInt_lt _⟩
theorem rgL_toJ {v : Int64} : rgL v.toInt := ⟨Int64.le_toInt _, Int64.toInt_lt _⟩
theorem shr8 {x : Int} (hx : rg x) : Int32.ofInt x >>> (Int32.ofInt 8 &&& 31) = Int32.ofInt (x / 256) := by
  have e : (Int32.ofInt 8 &&& 31 : Int32) = 8 := rfl
  rw [e]
  have h1 : (Int32.ofInt x >>> (8 : Int32)).toInt = x / 256 := by
    show ((Int32.ofInt x).toBitVec.sshiftRight' ((8 : Int32).toBitVec.smod 32)).toInt = _
    have e2 : ((8 : Int32).toBitVec.smod 32) = 8#32 := by decide
    rw [e2]
    show ((Int32.ofInt x).toBitVec.sshiftRight 8).toInt = _
    rw [BitVec.toInt_sshiftRight]
    show (Int32.ofInt x).toInt >>> 8 = _
    rw [toI hx, Int.shiftRight_eq_div_pow]
    rfl
  rw [← ofI_toI (v := Int32.ofInt x >>> (8 : Int32)), h1]
theorem and_bnd {x y : Int} (hy : 0 ≤ y) (hy2 : rg y) : 0 ≤ (Int32.ofInt x &&& Int32.ofInt y).toInt ∧ (Int32.ofInt x &&& Int32.ofInt y).toInt ≤ y := by
  have e : (Int32.ofInt y).toInt = y := toI hy2
  have m0 : (Int32.ofInt y).toBitVec.toInt = y := e
  have hm : (Int32.ofInt y).toBitVec.msb = false := by
    cases h : (Int32.ofInt y).toBitVec.msb with
    | false => rfl
    | true =>
      have := BitVec.toInt_neg_iff.mpr (by
        have := BitVec.msb_eq_true_iff_two_mul_ge.mp h
        exact this)
      omega
  have hn : ((Int32.ofInt y).toBitVec.toNat : Int) = y := by
    have t := BitVec.toInt_eq_toNat_of_msb hm
    rw [t] at m0
    exact m0
  have hm2 : ((Int32.ofInt x).toBitVec &&& (Int32.ofInt y).toBitVec).msb = false := by rw [BitVec.msb_and, hm, Bool.and_false]
  have e3 : (Int32.ofInt x &&& Int32.ofInt y).toInt = (((Int32.ofInt x).toBitVec &&& (Int32.ofInt y).toBitVec).toNat : Int) := by
    show ((Int32.ofInt x).toBitVec &&& (Int32.ofInt y).toBitVec).toInt = _
    rw [BitVec.toInt_eq_toNat_of_msb hm2]
  have hle : ((Int32.ofInt x).toBitVec &&& (Int32.ofInt y).toBitVec).toNat ≤ (Int32.ofInt y).toBitVec.toNat := by rw [BitVec.toNat_and]; exact Nat.and_le_right
  rw [e3]
  omega
theorem and255 {x : Int} (hx : rg x) : (Int32.ofInt x &&& Int32.ofInt 255) = Int32.ofInt (x % 256) := by
  have h1 : (Int32.ofInt x &&& Int32.ofInt 255).toInt = x % 256 := by
    have b := and_bnd (x := x) (y := 255) (by omega) (by unfold rg; omega)
    have e3 : ((Int32.ofInt x &&& Int32.ofInt 255).toInt) = (((Int32.ofInt x).toBitVec &&& (Int32.ofInt 255).toBitVec).toNat : Int) := by
      show ((Int32.ofInt x).toBitVec &&& (Int32.ofInt 255).toBitVec).toInt = _
      refine BitVec.toInt_eq_toNat_of_msb ?_
      rw [BitVec.msb_and]
      have : (Int32.ofInt 255).toBitVec.msb = false := by decide
      rw [this, Bool.and_false]
    rw [e3, BitVec.toNat_and]
    have e4 : (Int32.ofInt 255).toBitVec.toNat = 2 ^ 8 - 1 := by decide
    rw [e4, Nat.and_two_pow_sub_one_eq_mod]
    have e5 : ((Int32.ofInt x).toBitVec.toNat : Int) = x % 4294967296 := by
      show ((BitVec.ofInt 32 x).toNat : Int) = _
      rw [BitVec.toNat_ofInt]
      omega
    omega
  rw [← ofI_toI (v := Int32.ofInt x &&& Int32.ofInt 255), h1]
section SAFE
variable {d pc : Nat} {q : mT} {L : List (Nat × Value)} {st : List Value} {S : sS} {Q : pst} {lay : Nat → Nat × Nat}
theorem l_lcmp {x y : Int} (hc : lk q.2.2.2.2.2 pc = some .lcmp) (hx : rgL x) (hy : rgL y) (h : ∀ c : Int, (-1 ≤ c ∧ c ≤ 1) → (c < 0 → x < y) → (c = 0 → x = y) → (0 < c → y < x) → Rl lay d q (pc + 1) L (iv c :: st) S Q) : Rl lay d q pc L (jw y :: jw x :: st) S Q := by
  have go : ∀ c : Int, lg_cmp (Int64.ofInt x) (Int64.ofInt y) = Int32.ofInt c → Rl lay d q (pc + 1) L (iv c :: st) S Q → Rl lay d q pc L (jw y :: jw x :: st) S Q := fun c e hh =>
    Rl_s hc rfl (fun lv ha => ⟨lv, by
      show some (pc + 1, lv, Value.int (lg_cmp (Int64.ofInt x) (Int64.ofInt y)) :: st, S) = _
      rw [e]; rfl, ha⟩) hh
  rcases Int.lt_trichotomy x y with h1 | h1 | h1
  · refine go (-1) ?_ (h (-1) (by omega) (by omega) (by omega) (by omega))
    unfold lg_cmp
    have a := (i64_lt hx hy).mpr h1
    have b : ¬ (Int64.ofInt y < Int64.ofInt x) := fun z => by have := (i64_lt hy hx).mp z; omega
    have c : ¬ (Int64.ofInt x = Int64.ofInt y) := fun z => by have := (i64_eq hx hy).mp z; omega
    simp [a, b, c]
    try rfl
  · refine go 0 ?_ (h 0 (by omega) (by omega) (by omega) (by omega))
    subst h1
    unfold lg_cmp
    simp
    try rfl
  · refine go 1 ?_ (h 1 (by omega) (by omega) (by omega) (by omega))
    unfold lg_cmp
    have a := (i64_lt hy hx).mpr h1
    have b : ¬ (Int64.ofInt x < Int64.ofInt y) := fun z => by have := (i64_lt hx hy).mp z; omega
    have c : ¬ (Int64.ofInt x = Int64.ofInt y) := fun z => by have := (i64_eq hx hy).mp z; omega
    simp [a, b, c]
    try rfl
theorem l_lcmpA {x y : Int} (hc : lk q.2.2.2.2.2 pc = some .lcmp) (h : ∀ c : Int, (-1 ≤ c ∧ c ≤ 1) → Rl lay d q (pc + 1) L (iv c :: st) S Q) : Rl lay d q pc L (jw y :: jw x :: st) S Q := by
  have go : ∀ c : Int, lg_cmp (Int64.ofInt x) (Int64.ofInt y) = Int32.ofInt c → Rl lay d q (pc + 1) L (iv c :: st) S Q → Rl lay d q pc L (jw y :: jw x :: st) S Q := fun c e hh =>
    Rl_s hc rfl (fun lv ha => ⟨lv, by
      show some (pc + 1, lv, Value.int (lg_cmp (Int64.ofInt x) (Int64.ofInt y)) :: st, S) = _
      rw [e]; rfl, ha⟩) hh
  by_cases a : Int64.ofInt x > Int64.ofInt y
  · exact go 1 (by unfold lg_cmp; simp [a]; try rfl) (h 1 (by omega))
  · by_cases b : Int64.ofInt x = Int64.ofInt y
    · exact go 0 (by unfold lg_cmp; simp [b]; try rfl) (h 0 (by omega))
    · exact go (-1) (by unfold lg_cmp; simp [a, b]; try rfl) (h (-1) (by omega))
theorem l_l2iA {x : Int} (hc : lk q.2.2.2.2.2 pc = some .l2i) (h : ∀ c : Int, (-2147483648 ≤ c ∧ c ≤ 2147483647) → Rl lay d q (pc + 1) L (iv c :: st) S Q) : Rl lay d q pc L (jw x :: st) S Q :=
  Rl_s hc rfl (fun lv ha => ⟨lv, by
    show some (pc + 1, lv, Value.int (Int64.ofInt x).toInt32 :: st, S) = _
    rw [← ofI_toI (v := (Int64.ofInt x).toInt32)]; rfl, ha⟩) (h _ ⟨rg_toI.1, Int.le_of_lt_add_one rg_toI.2⟩)
theorem l_i2l {x : Int} (hc : lk q.2.2.2.2.2 pc = some .i2l) (hx : rg x) (h : Rl lay d q (pc + 1) L (jw x :: st) S Q) : Rl lay d q pc L (iv x :: st) S Q :=
  Rl_s hc rfl (fun lv ha => ⟨lv, by
    show some (pc + 1, lv, Value.long (Int32.ofInt x).toInt64 :: st, S) = _
    have e : (Int32.ofInt x).toInt64 = Int64.ofInt x := by
      rw [← ofJ_toJ (v := (Int32.ofInt x).toInt64), Int32.toInt_toInt64, toI hx]
    rw [e]; rfl, ha⟩) h
theorem l_l2i {x : Int} (hc : lk q.2.2.2.2.2 pc = some .l2i) (h : ∀ c : Int, rg c → (rg x → rgL x → c = x) → Rl lay d q (pc + 1) L (iv c :: st) S Q) : Rl lay d q pc L (jw x :: st) S Q :=
  Rl_s hc rfl (fun lv ha => ⟨lv, by
    show some (pc + 1, lv, Value.int (Int64.ofInt x).toInt32 :: st, S) = _
    rw [← ofI_toI (v := (Int64.ofInt x).toInt32)]; rfl, ha⟩) (h _ rg_toI (fun h1 h2 => by rw [Int64.toInt_toInt32, toJ h2]; exact Int.bmod_eq_of_le (by unfold rg at h1; omega) (by unfold rg at h1; omega)))
theorem l_ldc2 {ix : Nat} {z : Int} (hc : lk q.2.2.2.2.2 pc = some (.ldc2_w ix)) (hz : cLs q.2.2.2.2.1 ix = some (jw z)) (h : Rl lay d q (pc + 3) L (jw z :: st) S Q) : Rl lay d q pc L st S Q :=
  Rl_s hc rfl (fun lv ha => ⟨lv, by
    show (match cLs q.2.2.2.2.1 ix with | some (.long v) => some (pc + 3, lv, Value.long v :: st, S) | _ => none) = _
    rw [hz]; rfl, ha⟩) h
theorem l_ldc {ix : Nat} {z : Int} (hc : lk q.2.2.2.2.2 pc = some (.ldc ix)) (hz : cLs q.2.2.2.2.1 ix = some (iv z)) (h : Rl lay d q (pc + 2) L (iv z :: st) S Q) : Rl lay d q pc L st S Q :=
  Rl_s hc rfl (fun lv ha => ⟨lv, by
    show (match cLs q.2.2.2.2.1 ix with | some (.int v) => some (pc + 2, lv, Value.int v :: st, S) | some (.ref k) => some (pc + 2, lv, Value.ref k :: st, S) | _ => none) = _
    rw [hz]; rfl, ha⟩) h
theorem l_ldcw {ix : Nat} {z : Int} (hc : lk q.2.2.2.2.2 pc = some (.ldc_w ix)) (hz : cLs q.2.2.2.2.1 ix = some (iv z)) (h : Rl lay d q (pc + 3) L (iv z :: st) S Q) : Rl lay d q pc L st S Q :=
  Rl_s hc rfl (fun lv ha => ⟨lv, by
    show (match cLs q.2.2.2.2.1 ix with | some (.int v) => some (pc + 3, lv, Value.int v :: st, S) | some (.ref k) => some (pc + 3, lv, Value.ref k :: st, S) | _ => none) = _
    rw [hz]; rfl, ha⟩) h
def iorF (x y : Int) : Int := (Int32.ofInt x ||| Int32.ofInt y).toInt
theorem iorF_rg {x y : Int} : -2147483648 ≤ iorF x y ∧ iorF x y ≤ 2147483647 := ⟨rg_toI.1, Int.le_of_lt_add_one rg_toI.2⟩
theorem l_iorF {x y : Int} (hc : lk q.2.2.2.2.2 pc = some .ior) (h : Rl lay d q (pc + 1) L (iv (iorF x y) :: st) S Q) : Rl lay d q pc L (iv y :: iv x :: st) S Q :=
  Rl_s hc rfl (fun lv ha => ⟨lv, by
    show some (pc + 1, lv, Value.int (Int32.ofInt x ||| Int32.ofInt y) :: st, S) = _
    unfold iv iorF; rw [ofI_toI], ha⟩) h
def iandF (x y : Int) : Int := (Int32.ofInt x &&& Int32.ofInt y).toInt
theorem iandF_rg {x y : Int} : -2147483648 ≤ iandF x y ∧ iandF x y ≤ 2147483647 := ⟨rg_toI.1, Int.le_of_lt_add_one rg_toI.2⟩
theorem l_iandF {x y : Int} (hc : lk q.2.2.2.2.2 pc = some .iand) (h : Rl lay d q (pc + 1) L (iv (iandF x y) :: st) S Q) : Rl lay d q pc L (iv y :: iv x :: st) S Q :=
  Rl_s hc rfl (fun lv ha => ⟨lv, by
    show some (pc + 1, lv, Value.int (Int32.ofInt x &&& Int32.ofInt y) :: st, S) = _
    unfold iv iandF; rw [ofI_toI], ha⟩) h
def ixorF (x y : Int) : Int := (Int32.ofInt x ^^^ Int32.ofInt y).toInt
theorem ixorF_rg {x y : Int} : -2147483648 ≤ ixorF x y ∧ ixorF x y ≤ 2147483647 := ⟨rg_toI.1, Int.le_of_lt_add_one rg_toI.2⟩
theorem l_ixorF {x y : Int} (hc : lk q.2.2.2.2.2 pc = some .ixor) (h : Rl lay d q (pc + 1) L (iv (ixorF x y) :: st) S Q) : Rl lay d q pc L (iv y :: iv x :: st) S Q :=
  Rl_s hc rfl (fun lv ha => ⟨lv, by
    show some (pc + 1, lv, Value.int (Int32.ofInt x ^^^ Int32.ofInt y) :: st, S) = _
    unfold iv ixorF; rw [ofI_toI], ha⟩) h
def ishlF (x y : Int) : Int := (Int32.ofInt x <<< (Int32.ofInt y &&& 31)).toInt
theorem ishlF_rg {x y : Int} : -2147483648 ≤ ishlF x y ∧ ishlF x y ≤ 2147483647 := ⟨rg_toI.1, Int.le_of_lt_add_one rg_toI.2⟩
theorem l_ishlF {x y : Int} (hc : lk q.2.2.2.2.2 pc = some .ishl) (h : Rl lay d q (pc + 1) L (iv (ishlF x y) :: st) S Q) : Rl lay d q pc L (iv y :: iv x :: st) S Q :=
  Rl_s hc rfl (fun lv ha => ⟨lv, by
    show some (pc + 1, lv, Value.int (Int32.ofInt x <<< (Int32.ofInt y &&& 31)) :: st, S) = _
    unfold iv ishlF; rw [ofI_toI], ha⟩) h
def ishrF (x y : Int) : Int := (Int32.ofInt x >>> (Int32.ofInt y &&& 31)).toInt
theorem ishrF_rg {x y : Int} : -2147483648 ≤ ishrF x y ∧ ishrF x y ≤ 2147483647 := ⟨rg_toI.1, Int.le_of_lt_add_one rg_toI.2⟩
theorem l_ishrF {x y : Int} (hc : lk q.2.2.2.2.2 pc = some .ishr) (h : Rl lay d q (pc + 1) L (iv (ishrF x y) :: st) S Q) : Rl lay d q pc L (iv y :: iv x :: st) S Q :=
  Rl_s hc rfl (fun lv ha => ⟨lv, by
    show some (pc + 1, lv, Value.int (Int32.ofInt x >>> (Int32.ofInt y &&& 31)) :: st, S) = _
    unfold iv ishrF; rw [ofI_toI], ha⟩) h
def lorF (x y : Int) : Int := (Int64.ofInt x ||| Int64.ofInt y).toInt
theorem lorF_rg {x y : Int} : rgL (lorF x y) := rgL_toJ
theorem l_lorF {x y : Int} (hc : lk q.2.2.2.2.2 pc = some .lor) (h : Rl lay d q (pc + 1) L (jw (lorF x y) :: st) S Q) : Rl lay d q pc L (jw y :: jw x :: st) S Q :=
  Rl_s hc rfl (fun lv ha => ⟨lv, by
    show some (pc + 1, lv, Value.long (Int64.ofInt x ||| Int64.ofInt y) :: st, S) = _
    unfold jw lorF; rw [ofJ_toJ], ha⟩) h
def landF (x y : Int) : Int := (Int64.ofInt x &&& Int64.ofInt y).toInt
theorem landF_rg {x y : Int} : rgL (landF x y) := rgL_toJ
theorem l_landF {x y : Int} (hc : lk q.2.2.2.2.2 pc = some .land) (h : Rl lay d q (pc + 1) L (jw (landF x y) :: st) S Q) : Rl lay d q pc L (jw y :: jw x :: st) S Q :=
  Rl_s hc rfl (fun lv ha => ⟨lv, by
    show some (pc + 1, lv, Value.long (Int64.ofInt x &&& Int64.ofInt y) :: st, S) = _
    unfold jw landF; rw [ofJ_toJ], ha⟩) h
def lshlF (x y : Int) : Int := (Int64.ofInt x <<< ((Int32.ofInt y).toInt64 &&& 63)).toInt
theorem lshlF_rg {x y : Int} : rgL (lshlF x y) := rgL_toJ
theorem l_lshlF {x y : Int} (hc : lk q.2.2.2.2.2 pc = some .lshl) (h : Rl lay d q (pc + 1) L (jw (lshlF x y) :: st) S Q) : Rl lay d q pc L (iv y :: jw x :: st) S Q :=
  Rl_s hc rfl (fun lv ha => ⟨lv, by
    show some (pc + 1, lv, Value.long (Int64.ofInt x <<< ((Int32.ofInt y).toInt64 &&& 63)) :: st, S) = _
    unfold jw lshlF; rw [ofJ_toJ], ha⟩) h
def lshrF (x y : Int) : Int := (Int64.ofInt x >>> ((Int32.ofInt y).toInt64 &&& 63)).toInt
theorem lshrF_rg {x y : Int} : rgL (lshrF x y) := rgL_toJ
theorem l_lshrF {x y : Int} (hc : lk q.2.2.2.2.2 pc = some .lshr) (h : Rl lay d q (pc + 1) L (jw (lshrF x y) :: st) S Q) : Rl lay d q pc L (iv y :: jw x :: st) S Q :=
  Rl_s hc rfl (fun lv ha => ⟨lv, by
    show some (pc + 1, lv, Value.long (Int64.ofInt x >>> ((Int32.ofInt y).toInt64 &&& 63)) :: st, S) = _
    unfold jw lshrF; rw [ofJ_toJ], ha⟩) h
def lushrF (x y : Int) : Int := ((((Int64.ofInt x).toUInt64 >>> ((Int32.ofInt y).toInt64.toUInt64 &&& Int64.toUInt64 63)).toInt64)).toInt
theorem lushrF_rg {x y : Int} : rgL (lushrF x y) := rgL_toJ
theorem l_lushrF {x y : Int} (hc : lk q.2.2.2.2.2 pc = some .lushr) (h : Rl lay d q (pc + 1) L (jw (lushrF x y) :: st) S Q) : Rl lay d q pc L (iv y :: jw x :: st) S Q :=
  Rl_s hc rfl (fun lv ha => ⟨lv, by
    show some (pc + 1, lv, Value.long ((((Int64.ofInt x).toUInt64 >>> ((Int32.ofInt y).toInt64.toUInt64 &&& Int64.toUInt64 63)).toInt64)) :: st, S) = _
    unfold jw lushrF; rw [ofJ_toJ], ha⟩) h
theorem i2b_e {x : Int} : (Int32.ofInt x).toInt8.toInt32.toInt = x.bmod 256 := by
  rw [Int8.toInt_toInt32, Int32.toInt8_ofInt, Int8.toInt_ofInt]
theorem bmod_c {x : Int} : (-128 ≤ x.bmod 256 ∧ x.bmod 256 ≤ 127) ∧ (x % 256 < 128 → x.bmod 256 = x % 256) ∧ (128 ≤ x % 256 → x.bmod 256 = x % 256 - 256) := by
  rw [Int.bmod_def]
  split <;> omega
theorem l_i2b {x : Int} (hc : lk q.2.2.2.2.2 pc = some .i2b) (h : ∀ c : Int, ((-128 ≤ c ∧ c ≤ 127) ∧ (x % 256 < 128 → c = x % 256) ∧ (128 ≤ x % 256 → c = x % 256 - 256)) → Rl lay d q (pc + 1) L (iv c :: st) S Q) : Rl lay d q pc L (iv x :: st) S Q :=
  Rl_s hc rfl (fun lv ha => ⟨lv, by
    show some (pc + 1, lv, Value.int ((Int32.ofInt x).toInt8.toInt32) :: st, S) = _
    rw [← ofI_toI (v := (Int32.ofInt x).toInt8.toInt32), i2b_e]; rfl, ha⟩) (h _ bmod_c)
theorem msb_nn {u : Int} (hu : rg u) (h0 : 0 ≤ u) : (Int32.ofInt u).toBitVec.msb = false := by
  cases hh : (Int32.ofInt u).toBitVec.msb with
  | false => rfl
  | true =>
    have t : (Int32.ofInt u).toBitVec.toInt < 0 := BitVec.toInt_neg_iff.mpr (BitVec.msb_eq_true_iff_two_mul_ge.mp hh)
    have t2 : (Int32.ofInt u).toBitVec.toInt = u := toI hu
    omega
theorem iorF_nn {x y : Int} (hx : rg x) (hy : rg y) : 0 ≤ x → 0 ≤ y → 0 ≤ iorF x y := fun h1 h2 => by
  show 0 ≤ ((Int32.ofInt x).toBitVec ||| (Int32.ofInt y).toBitVec).toInt
  rw [BitVec.toInt_eq_toNat_of_msb (by rw [BitVec.msb_or, msb_nn hx h1, msb_nn hy h2]; rfl)]
  omega
theorem l_ishr8 {x : Int} (hc : lk q.2.2.2.2.2 pc = some .ishr) (hx : rg x) (h : Rl lay d q (pc + 1) L (iv (x / 256) :: st) S Q) : Rl lay d q pc L (iv 8 :: iv x :: st) S Q :=
  Rl_s hc rfl (fun lv ha => ⟨lv, by
    show some (pc + 1, lv, Value.int (Int32.ofInt x >>> (Int32.ofInt 8 &&& 31)) :: st, S) = _
    rw [shr8 hx]; rfl, ha⟩) h
theorem iandF_le {x y : Int} (hy : 0 ≤ y) (hy2 : rg y) : 0 ≤ iandF x y ∧ iandF x y ≤ y := and_bnd hy hy2
theorem l_iand255 {x : Int} (hc : lk q.2.2.2.2.2 pc = some .iand) (hx : rg x) (h : Rl lay d q (pc + 1) L (iv (x % 256) :: st) S Q) : Rl lay d q pc L (iv 255 :: iv x :: st) S Q :=
  Rl_s hc rfl (fun lv ha => ⟨lv, by
    show some (pc + 1, lv, Value.int (Int32.ofInt x &&& Int32.ofInt 255) :: st, S) = _
    rw [and255 hx]; rfl, ha⟩) h
theorem ixorF_1 {x : Int} (h0 : 0 ≤ x) (h5 : x ≤ 5) : 0 ≤ ixorF x 1 ∧ ixorF x 1 ≤ 5 := by
  have e : x = 0 ∨ x = 1 ∨ x = 2 ∨ x = 3 ∨ x = 4 ∨ x = 5 := by omega
  rcases e with rfl | rfl | rfl | rfl | rfl | rfl <;> decide
theorem l_iaddW {x y : Int} (hc : lk q.2.2.2.2.2 pc = some .iadd) (h : ∀ c : Int, (-2147483648 ≤ c ∧ c ≤ 2147483647) → Rl lay d q (pc + 1) L (iv c :: st) S Q) : Rl lay d q pc L (iv y :: iv x :: st) S Q :=
  Rl_s hc rfl (fun lv ha => ⟨lv, by
    show some (pc + 1, lv, Value.int (Int32.ofInt x + Int32.ofInt y) :: st, S) = _
    rw [← ofI_toI (v := Int32.ofInt x + Int32.ofInt y)]; rfl, ha⟩) (h _ ⟨rg_toI.1, Int.le_of_lt_add_one rg_toI.2⟩)
theorem l_ineg {x : Int} (hc : lk q.2.2.2.2.2 pc = some .ineg) (h : Rl lay d q (pc + 1) L (iv (-x) :: st) S Q) : Rl lay d q pc L (iv x :: st) S Q :=
  Rl_s hc rfl (fun lv ha => ⟨lv, by
    show some (pc + 1, lv, Value.int (-Int32.ofInt x) :: st, S) = _
    rw [← Int32.ofInt_neg]; rfl, ha⟩) h
def tgs (pc : Nat) : List Int → Option (List Nat)
  | [] => some []
  | o :: r => match jm pc o, tgs pc r with
    | some t, some ts => some (t :: ts)
    | _, _ => none
theorem tgs_at : ∀ {offs : List Int} {ts : List Nat}, tgs pc offs = some ts → ∀ {i : Nat} {o : Int}, offs[i]? = some o → ∃ t, ts[i]? = some t ∧ jm pc o = some t := by
  intro offs
  induction offs with
  | nil => intro ts _ i o h; simp at h
  | cons a r ih =>
    intro ts h i o hi
    unfold tgs at h
    cases h1 : jm pc a with
    | none => rw [h1] at h; cases h
    | some t =>
      cases h2 : tgs pc r with
      | none => rw [h1, h2] at h; cases h
      | some us =>
        rw [h1, h2] at h
        cases h
        cases i with
        | zero => simp at hi; subst hi; exact ⟨t, rfl, h1⟩
        | succ i => obtain ⟨u, a1, a2⟩ := ih h2 (by simpa using hi); exact ⟨u, by simpa using a1, a2⟩
theorem l_tsw {x df lo hi : Int} {offs : Array Int} {t0 : Nat} {ts : List Nat} (hc : lk q.2.2.2.2.2 pc = some (.tableswitch df lo hi offs)) (h0 : jm pc df = some t0) (ht : tgs pc offs.toList = some ts) (hn : (hi - lo + 1).toNat = offs.toList.length) (hx : rg x) (h1 : (x < lo ∨ hi < x) → Rl lay d q t0 L st S Q) (h2 : ∀ (i : Nat) (t : Nat), ts[i]? = some t → x = lo + i → Rl lay d q t L st S Q) : Rl lay d q pc L (iv x :: st) S Q := by
  have e := toI hx
  by_cases z : x < lo ∨ hi < x
  · refine Rl_s hc rfl (fun lv ha => ⟨lv, ?_, ha⟩) (h1 z)
    show (bif decide ((Int32.ofInt x).toInt < lo ∨ hi < (Int32.ofInt x).toInt) then (match jm pc df with
        | some t => some (t, lv, st, S)
        | none => none) else _) = _
    rw [e, decide_eq_true z, h0]; rfl
  · have hi1 : (x - lo).toNat < offs.toList.length := by omega
    obtain ⟨t, a, b⟩ := tgs_at ht (List.getElem?_eq_getElem hi1)
    refine Rl_s hc rfl (fun lv ha => ⟨lv, ?_, ha⟩) (h2 _ t a (by omega))
    show (bif decide ((Int32.ofInt x).toInt < lo ∨ hi < (Int32.ofInt x).toInt) then _ else (match offs[((Int32.ofInt x).toInt - lo).toNat]? with
        | some o => (match jm pc o with
          | some t => some (t, lv, st, S)
          | none => none)
        | none => none)) = _
    rw [e, decide_eq_false z]
    have e2 : offs[(x - lo).toNat]? = some (offs.toList[(x - lo).toNat]) := by
      rw [← Array.getElem?_toList]; exact List.getElem?_eq_getElem hi1
    show (match offs[(x - lo).toNat]? with
        | some o => (match jm pc o with
          | some t => some (t, lv, st, S)
          | none => none)
        | none => none) = _
    rw [e2]
    show (match jm pc (offs.toList[(x - lo).toNat]) with
          | some t => some (t, lv, st, S)
          | none => none) = _
    rw [b]
theorem l_max {ix na : Nat} {md : mT} {x y : Int} (hc : lk q.2.2.2.2.2 pc = some (.invokestatic ix)) (hk : kLs q.2.2.2.2.1 ix = some (10, md, na)) (hs : Nat.ble (st.map (fun v => v.category)).sum 8 = true) (hx : rg x) (hy : rg y) (h : Rl lay d q (pc + 3) L (iv (if x < y then y else x) :: st) S Q) : Rl lay d q pc L (iv y :: iv x :: st) S Q := by
  intro lv ha
  obtain ⟨N, r, S1, hr, hq⟩ := h lv ha
  refine ⟨N + 1, r, S1, fun F G hF hG => ?_, hq⟩
  obtain ⟨F, rfl⟩ : ∃ F1, F = F1 + 1 := ⟨F - 1, by omega⟩
  have e := hr F G (by omega) (by omega)
  unfold run
  rw [hc]
  simp only [hk]
  show (bif Nat.ble (st.map (fun v => v.category)).sum 8 then run lay (fLs q.2.2.2.2.1) (cLs q.2.2.2.2.1) (kLs q.2.2.2.2.1) q.2.2.1 q.2.2.2.1 (evd lay G d) q.2.2.2.2.2 F (pc + 3) lv (.int (if Int32.ofInt x < Int32.ofInt y then Int32.ofInt y else Int32.ofInt x) :: st) S else none) = _
  rw [hs]
  have e2 : (if Int32.ofInt x < Int32.ofInt y then Int32.ofInt y else Int32.ofInt x) = Int32.ofInt (if x < y then y else x) := by
    by_cases z : x < y
    · rw [if_pos z, if_pos ((i32_lt hx hy).mpr z)]
    · rw [if_neg z, if_neg (fun u => z ((i32_lt hx hy).mp u))]
  rw [e2]
  exact e
theorem l_min {ix na : Nat} {md : mT} {x y : Int} (hc : lk q.2.2.2.2.2 pc = some (.invokestatic ix)) (hk : kLs q.2.2.2.2.1 ix = some (11, md, na)) (hs : Nat.ble (st.map (fun v => v.category)).sum 8 = true) (hx : rg x) (hy : rg y) (h : Rl lay d q (pc + 3) L (iv (if y < x then y else x) :: st) S Q) : Rl lay d q pc L (iv y :: iv x :: st) S Q := by
  intro lv ha
  obtain ⟨N, r, S1, hr, hq⟩ := h lv ha
  refine ⟨N + 1, r, S1, fun F G hF hG => ?_, hq⟩
  obtain ⟨F, rfl⟩ : ∃ F1, F = F1 + 1 := ⟨F - 1, by omega⟩
  have e := hr F G (by omega) (by omega)
  unfold run
  rw [hc]
  simp only [hk]
  show (bif Nat.ble (st.map (fun v => v.category)).sum 8 then run lay (fLs q.2.2.2.2.1) (cLs q.2.2.2.2.1) (kLs q.2.2.2.2.1) q.2.2.1 q.2.2.2.1 (evd lay G d) q.2.2.2.2.2 F (pc + 3) lv (.int (if Int32.ofInt y < Int32.ofInt x then Int32.ofInt y else Int32.ofInt x) :: st) S else none) = _
  rw [hs]
  have e2 : (if Int32.ofInt y < Int32.ofInt x then Int32.ofInt y else Int32.ofInt x) = Int32.ofInt (if y < x then y else x) := by
    by_cases z : y < x
    · rw [if_pos z, if_pos ((i32_lt hy hx).mpr z)]
    · rw [if_neg z, if_neg (fun u => z ((i32_lt hy hx).mp u))]
  rw [e2]
  exact e
end SAFE

/-! SAFETY: divisions, Math.abs -/
section SAFE
variable {lay : Nat → Nat × Nat} {d pc : Nat} {q : mT} {L : List (Nat × Value)} {st : List Value} {S : sS} {Q : pst}
theorem nz32 {y : Int} (h : y ≠ 0) (hy : rg y) : decide (¬ Int32.ofInt y = 0) = true := by
  apply decide_eq_true
  intro e
  have e2 := congrArg Int32.toInt e
  rw [toI hy] at e2
  exact h (e2.trans rfl)
theorem nz64 {y : Int} (h : y ≠ 0) (hy : rgL y) : decide (¬ Int64.ofInt y = 0) = true := by
  apply decide_eq_true
  intro e
  have e2 := congrArg Int64.toInt e
  rw [toJ hy] at e2
  exact h (e2.trans rfl)
theorem tdv {x y : Int} (h1 : 0 < y) : (0 ≤ x → x.tdiv y = x / y ∧ 0 ≤ x / y ∧ x / y ≤ x) ∧ (x < 0 → x ≤ x.tdiv y ∧ x.tdiv y ≤ 0) := by
  refine ⟨fun h0 => ⟨Int.tdiv_eq_ediv_of_nonneg h0, Int.ediv_nonneg h0 (by omega), Int.ediv_le_self _ h0⟩, fun h0 => ?_⟩
  have e : x.tdiv y = -((-x) / y) := by
    rw [← Int.tdiv_eq_ediv_of_nonneg (by omega : (0 : Int) ≤ -x), Int.neg_tdiv]; omega
  have a := Int.ediv_nonneg (by omega : (0 : Int) ≤ -x) (by omega : (0 : Int) ≤ y)
  have b := Int.ediv_le_self y (by omega : (0 : Int) ≤ -x)
  omega
theorem div32 {x y : Int} (h1 : 0 < y) (hx : rg x) (hy : rg y) : (Int32.ofInt x / Int32.ofInt y).toInt = x.tdiv y := by
  have t := tdv (x := x) h1
  unfold rg at hx
  rw [Int32.toInt_div, toI hx, toI hy]
  exact Int.bmod_eq_of_le (by omega) (by omega)
theorem div64 {x y : Int} (h1 : 0 < y) (hx : rgL x) (hy : rgL y) : (Int64.ofInt x / Int64.ofInt y).toInt = x.tdiv y := by
  have t := tdv (x := x) h1
  unfold rgL at hx
  rw [Int64.toInt_div, toJ hx, toJ hy]
  exact Int.bmod_eq_of_le (by omega) (by omega)
theorem l_idivA {x y : Int} (hc : lk q.2.2.2.2.2 pc = some .idiv) (h1 : 0 < y) (hx : rg x) (hy : rg y) (h : ∀ c : Int, (-2147483648 ≤ c ∧ c ≤ 2147483647) → (0 ≤ x → c = x / y) → (x < 0 → x ≤ c ∧ c ≤ 0) → Rl lay d q (pc + 1) L (iv c :: st) S Q) : Rl lay d q pc L (iv y :: iv x :: st) S Q :=
  Rl_s hc rfl (fun lv ha => ⟨lv, by
    show (bif decide (¬ Int32.ofInt y = 0) then some (pc + 1, lv, Value.int (Int32.ofInt x / Int32.ofInt y) :: st, S) else none) = _
    rw [nz32 (by omega) hy, ← ofI_toI (v := Int32.ofInt x / Int32.ofInt y), div32 h1 hx hy]; rfl, ha⟩) (by
    have t := tdv (x := x) h1
    unfold rg at hx
    exact h _ (by omega) (fun a => (t.1 a).1) (fun a => t.2 a))
theorem l_idivP {x y : Int} (hc : lk q.2.2.2.2.2 pc = some .idiv) (h0 : 0 ≤ x) (h1 : 0 < y) (hx : rg x) (hy : rg y) (h : Rl lay d q (pc + 1) L (iv (x / y) :: st) S Q) : Rl lay d q pc L (iv y :: iv x :: st) S Q :=
  l_idivA hc h1 hx hy (fun c _ e _ => by rw [e h0]; exact h)
theorem rem_e {x y : Int} (h0 : 0 ≤ x) (h1 : 0 < y) : x - x.tdiv y * y = x % y := by
  rw [((tdv (x := x) h1).1 h0).1, Int.emod_def, Int.mul_comm]
theorem l_iremA {x y : Int} (hc : lk q.2.2.2.2.2 pc = some .irem) (h1 : 0 < y) (hx : rg x) (hy : rg y) (h : ∀ c : Int, (-2147483648 ≤ c ∧ c ≤ 2147483647) → (0 ≤ x → c = x % y) → True → Rl lay d q (pc + 1) L (iv c :: st) S Q) : Rl lay d q pc L (iv y :: iv x :: st) S Q :=
  Rl_s hc rfl (fun lv ha => ⟨lv, by
    show (bif decide (¬ Int32.ofInt y = 0) then some (pc + 1, lv, Value.int (Int32.ofInt x - Int32.ofInt x / Int32.ofInt y * Int32.ofInt y) :: st, S) else none) = _
    rw [nz32 (by omega) hy, ← ofI_toI (v := Int32.ofInt x - Int32.ofInt x / Int32.ofInt y * Int32.ofInt y)]; rfl, ha⟩) (h _ ⟨rg_toI.1, Int.le_of_lt_add_one rg_toI.2⟩ (fun h0 => by
    have e : Int32.ofInt x - Int32.ofInt x / Int32.ofInt y * Int32.ofInt y = Int32.ofInt (x % y) := by
      rw [← ofI_toI (v := Int32.ofInt x / Int32.ofInt y), div32 h1 hx hy, ← Int32.ofInt_mul, ← Int32.ofInt_sub, rem_e h0 h1]
    have b := Int.emod_lt_of_pos x h1
    have c := Int.emod_nonneg x (by omega : y ≠ 0)
    rw [e, toI ⟨by omega, by unfold rg at hy; omega⟩]) trivial)
theorem l_iremP {x y : Int} (hc : lk q.2.2.2.2.2 pc = some .irem) (h0 : 0 ≤ x) (h1 : 0 < y) (hx : rg x) (hy : rg y) (h : Rl lay d q (pc + 1) L (iv (x % y) :: st) S Q) : Rl lay d q pc L (iv y :: iv x :: st) S Q :=
  l_iremA hc h1 hx hy (fun c _ e _ => by rw [e h0]; exact h)
theorem l_ldivA {x y : Int} (hc : lk q.2.2.2.2.2 pc = some .ldiv) (h1 : 0 < y) (hx : rgL x) (hy : rgL y) (h : ∀ c : Int, rgL c → (0 ≤ x → c = x / y) → (x < 0 → x ≤ c ∧ c ≤ 0) → Rl lay d q (pc + 1) L (jw c :: st) S Q) : Rl lay d q pc L (jw y :: jw x :: st) S Q :=
  Rl_s hc rfl (fun lv ha => ⟨lv, by
    show (bif decide (¬ Int64.ofInt y = 0) then some (pc + 1, lv, Value.long (Int64.ofInt x / Int64.ofInt y) :: st, S) else none) = _
    rw [nz64 (by omega) hy, ← ofJ_toJ (v := Int64.ofInt x / Int64.ofInt y), div64 h1 hx hy]; rfl, ha⟩) (by
    have t := tdv (x := x) h1
    unfold rgL at hx
    exact h _ (by unfold rgL; omega) (fun a => (t.1 a).1) (fun a => t.2 a))
theorem l_lremA {x y : Int} (hc : lk q.2.2.2.2.2 pc = some .lrem) (h1 : 0 < y) (hx : rgL x) (hy : rgL y) (h : ∀ c : Int, rgL c → (0 ≤ x → c = x % y) → True → Rl lay d q (pc + 1) L (jw c :: st) S Q) : Rl lay d q pc L (jw y :: jw x :: st) S Q :=
  Rl_s hc rfl (fun lv ha => ⟨lv, by
    show (bif decide (¬ Int64.ofInt y = 0) then some (pc + 1, lv, Value.long (Int64.ofInt x - Int64.ofInt x / Int64.ofInt y * Int64.ofInt y) :: st, S) else none) = _
    rw [nz64 (by omega) hy, ← ofJ_toJ (v := Int64.ofInt x - Int64.ofInt x / Int64.ofInt y * Int64.ofInt y)]; rfl, ha⟩) (h _ rgL_toJ (fun h0 => by
    have e : Int64.ofInt x - Int64.ofInt x / Int64.ofInt y * Int64.ofInt y = Int64.ofInt (x % y) := by
      rw [← ofJ_toJ (v := Int64.ofInt x / Int64.ofInt y), div64 h1 hx hy, ← Int64.ofInt_mul, ← Int64.ofInt_sub, rem_e h0 h1]
    have b := Int.emod_lt_of_pos x h1
    have c := Int.emod_nonneg x (by omega : y ≠ 0)
    rw [e, toJ ⟨by omega, by unfold rgL at hy; omega⟩]) trivial)
theorem l_abs {ix na : Nat} {md : mT} {x : Int} (hc : lk q.2.2.2.2.2 pc = some (.invokestatic ix)) (hk : kLs q.2.2.2.2.1 ix = some (12, md, na)) (hs : Nat.ble (st.map (fun v => v.category)).sum 8 = true) (hx : rg x)
    (h : ∀ c : Int, (-2147483648 ≤ c ∧ c ≤ 2147483647) → (0 ≤ x → c = x) → (x < 0 → -2147483648 < x → c = -x) → Rl lay d q (pc + 3) L (iv c :: st) S Q) : Rl lay d q pc L (iv x :: st) S Q := by
  have hz : (0 : Int32) ≤ Int32.ofInt x ↔ 0 ≤ x := by
    rw [Int32.le_iff_toInt_le, toI hx]; exact Iff.rfl
  have h1 := h (if (0 : Int32) ≤ Int32.ofInt x then Int32.ofInt x else 0 - Int32.ofInt x).toInt ⟨rg_toI.1, Int.le_of_lt_add_one rg_toI.2⟩ (fun a => by rw [if_pos (hz.mpr a), toI hx]) (fun a b => by
    rw [if_neg (fun z => by have := hz.mp z; omega), show (0 : Int32) = Int32.ofInt 0 from rfl, ← Int32.ofInt_sub, toI ⟨by omega, by omega⟩]; omega)
  intro lv ha
  obtain ⟨N, r, S1, hr, hq⟩ := h1 lv ha
  refine ⟨N + 1, r, S1, fun F G hF hG => ?_, hq⟩
  obtain ⟨F, rfl⟩ : ∃ F1, F = F1 + 1 := ⟨F - 1, by omega⟩
  have e := hr F G (by omega) (by omega)
  unfold run
  rw [hc]
  simp only [hk]
  show (bif Nat.ble (st.map (fun v => v.category)).sum 8 then run lay (fLs q.2.2.2.2.1) (cLs q.2.2.2.2.1) (kLs q.2.2.2.2.1) q.2.2.1 q.2.2.2.1 (evd lay G d) q.2.2.2.2.2 F (pc + 3) lv (.int (if (0 : Int32) ≤ Int32.ofInt x then Int32.ofInt x else 0 - Int32.ofInt x) :: st) S else none) = _
  rw [hs, ← ofI_toI (v := if (0 : Int32) ≤ Int32.ofInt x then Int32.ofInt x else 0 - Int32.ofInt x)]
  exact e
end SAFE


