/-! THE LAW'S WALK behind the two constructors: no cell is made there -/
/-- the law's body answers 1 from here on, from some fuel on -/
def LWK (sl : Nat) (xs : Nat → Int32) (d : Nat) (pc : Nat) (L : List (Nat × Value)) (st : List Value) (S : sS) : Prop := ∀ lv, ag lv L → ∃ (N : Nat) (S1 : sS), ∀ F G, N ≤ F → N ≤ G → runA layF (fun _ => none) (lkp cT_la) (lkp kT_la) (lkp cC_la) (lkp kI_la) 99 4 none true sl xs (fun n => evd (layN layF n) G d) (fun _ _ _ _ _ => none) p_law F 1014 143280 pc lv st S = some (some (.int 1), S1, 1014, 143280)
def plA : Instr → Bool
  | .invokespecial _ => false
  | .invokevirtual _ => false
  | .invokestatic _ => false
  | .ireturn => false
  | .return_ => false
  | _ => true
section LAWWALK
variable {sl : Nat} {xs : Nat → Int32} {d pc : Nat} {L : List (Nat × Value)} {st : List Value} {S : sS}
theorem LWK_weak {L1 : List (Nat × Value)} (h : LWK sl xs d pc L1 st S) (hi : inL L1 L) : LWK sl xs d pc L st S := fun lv ha => h lv (fun j v hj => ha j v (inL_at hi j v hj))
theorem LWK_s {i : Instr} {pc1 : Nat} {L1 : List (Nat × Value)} {st1 : List Value} {S1 : sS} (hc : lk p_law pc = some i) (hp : plA i = true) (hA : stA layF (fun _ => none) (lkp cC_la) 99 true sl xs i 1014 143280 pc st S = none)
    (hs : ∀ lv, ag lv L → ∃ lv1, stp lay0 (fun _ => none) (lkp cT_la) 4 i pc lv st S = some (pc1, lv1, st1, S1) ∧ ag lv1 L1)
    (h : LWK sl xs d pc1 L1 st1 S1) : LWK sl xs d pc L st S := by
  intro lv ha
  obtain ⟨lv1, h1, h2⟩ := hs lv ha
  obtain ⟨N, S2, hr⟩ := h lv1 h2
  refine ⟨N + 1, S2, fun F G hF hG => ?_⟩
  obtain ⟨F, rfl⟩ : ∃ F1, F = F1 + 1 := ⟨F - 1, by omega⟩
  have e := hr F G (by omega) (by omega)
  have h1 : stp (layN layF 1014) (fun _ => none) (lkp cT_la) 4 i pc lv st S = some (pc1, lv1, st1, S1) := h1
  unfold runA
  rw [hc]
  cases i <;> first | (cases hp; done) | (simp only [hA, h1]; exact e)
theorem LWK_A {i : Instr} {pc1 : Nat} {st1 : List Value} (hc : lk p_law pc = some i) (hp : plA i = true) (hA : stA layF (fun _ => none) (lkp cC_la) 99 true sl xs i 1014 143280 pc st S = some (1014, 143280, pc1, st1, S)) (h : LWK sl xs d pc1 L st1 S) : LWK sl xs d pc L st S := by
  intro lv ha
  obtain ⟨N, S2, hr⟩ := h lv ha
  refine ⟨N + 1, S2, fun F G hF hG => ?_⟩
  obtain ⟨F, rfl⟩ : ∃ F1, F = F1 + 1 := ⟨F - 1, by omega⟩
  have e := hr F G (by omega) (by omega)
  unfold runA
  rw [hc]
  cases i <;> first | (cases hp; done) | (simp only [hA]; exact e)
/-- the script's length, an int of it -/
theorem r_len (hc : lk p_law pc = some .arraylength) (h : LWK sl xs d (pc + 1) L (iv (sl : Int) :: st) S) : LWK sl xs d pc L (.ref SCR :: st) S :=
  LWK_A hc rfl (by
    show some (1014, 143280, pc + 1, Value.int (Int32.ofNat sl) :: st, S) = _
    unfold iv
    rw [Int32.ofInt_eq_ofNat]) h
theorem r_scr {x : Int} (hc : lk p_law pc = some .iaload) (h0 : 0 ≤ x) (h1 : x < sl) (hx : rg x) (h : LWK sl xs d (pc + 1) L (iv (xs x.toNat).toInt :: st) S) : LWK sl xs d pc L (iv x :: .ref SCR :: st) S :=
  LWK_A hc rfl (by
    show (bif (true && Nat.beq SCR SCR) && inb (Int32.ofInt x) sl then some (1014, 143280, pc + 1, Value.int (xs (Int32.ofInt x).toNatClampNeg) :: st, S) else none) = _
    rw [inb_i h0 h1 hx, ix_i hx]
    unfold iv
    rw [Int32.ofInt_toInt]
    rfl) h
theorem r_ret (hc : lk p_law pc = some .ireturn) : LWK sl xs d pc L [iv 1] S := fun lv _ => ⟨1, S, fun F G hF _ => by
  obtain ⟨F, rfl⟩ : ∃ F1, F = F1 + 1 := ⟨F - 1, by omega⟩
  unfold runA
  rw [hc]
  rfl⟩
theorem r_call {ix na : Nat} {md : mT} {Q1 : pst} (hc : lk p_law pc = some (.invokevirtual ix)) (hk : lkp kT_la ix = some (0, md, na)) (ho : cOk lay0 md.2.2.2.2.1 na st = true) (hm : Mt lay0 d md (st.take (na + 1)).reverse S Q1)
    (h : ∀ r S1, Q1 r S1 → LWK sl xs d (pc + 3) L (r.toList ++ st.drop (na + 1)) S1) : LWK sl xs d pc L st S := by
  intro lv ha
  obtain ⟨N, r, S1, hr, hq⟩ := hm
  obtain ⟨N2, S2, hr2⟩ := h r S1 hq lv ha
  refine ⟨N + N2 + 1, S2, fun F G hF hG => ?_⟩
  obtain ⟨F, rfl⟩ : ∃ F1, F = F1 + 1 := ⟨F - 1, by omega⟩
  have e1 : evd (layN layF 1014) G d md (st.take (na + 1)).reverse S = some (r, S1) := hr G (by omega)
  have e2 := hr2 F G (by omega) (by omega)
  have ho : cOk (layN layF 1014) md.2.2.2.2.1 na st = true := ho
  unfold runA
  rw [hc]
  simp only [hk, ho, e1, cond_true]
  cases r with
  | none => exact e2
  | some v => exact e2
theorem r_iload_n {k : _} {x : Int} (hc : lk p_law pc = some (.iload_n k)) (hl : lgt L k = some (iv x)) (h : LWK sl xs d (pc + 1) L (iv x :: st) S) : LWK sl xs d pc L st S :=
  LWK_s hc rfl rfl (fun lv ha => ⟨lv, by show (match lgt lv k with | some (Value.int x) => some (pc + 1, lv, Value.int x :: st, S) | _ => (none : Option cfg)) = _; rw [ha _ _ hl]; rfl, ha⟩) h
theorem r_aload_n {k : _} {x : Nat} (hc : lk p_law pc = some (.aload_n k)) (hl : lgt L k = some (.ref x)) (h : LWK sl xs d (pc + 1) L (.ref x :: st) S) : LWK sl xs d pc L st S :=
  LWK_s hc rfl rfl (fun lv ha => ⟨lv, by show (match lgt lv k with | some (Value.ref x) => some (pc + 1, lv, Value.ref x :: st, S) | _ => (none : Option cfg)) = _; rw [ha _ _ hl], ha⟩) h
theorem r_iinc {k : Nat} {n x : Int} (hc : lk p_law pc = some (.iinc k n)) (hl : lgt L k = some (iv x)) (hk : Nat.blt k 4 = true) (hn : nw L k = true) (h : LWK sl xs d (pc + 3) (sL L k (iv (x + n))) st S) : LWK sl xs d pc L st S :=
  LWK_s hc rfl rfl (fun lv ha => ⟨st1 lv k (iv (x + n)), by
    show (match lgt lv k with | some (Value.int x) => bif Nat.blt k 4 then some (pc + 3, st1 lv k (Value.int (x + Int32.ofInt n)), st, S) else none | _ => (none : Option cfg)) = _
    rw [ha _ _ hl, hk]
    show some (pc + 3, st1 lv k (Value.int (Int32.ofInt x + Int32.ofInt n)), st, S) = _
    rw [← Int32.ofInt_add]; rfl, ag_st1 ha hn⟩) h
theorem r_iconst {n : Int} (hc : lk p_law pc = some (.iconst n)) (h : LWK sl xs d (pc + 1) L (iv n :: st) S) : LWK sl xs d pc L (st) S :=
  LWK_s hc rfl rfl (fun lv ha => ⟨lv, by rfl, ha⟩) h
theorem r_bipush {n : Int} (hc : lk p_law pc = some (.bipush n)) (hn : (Int8.ofInt n).toInt32 = Int32.ofInt n) (h : LWK sl xs d (pc + 2) L (iv n :: st) S) : LWK sl xs d pc L (st) S :=
  LWK_s hc rfl rfl (fun lv ha => ⟨lv, by show some (pc + 2, lv, Value.int (Int8.ofInt n).toInt32 :: st, S) = _; rw [hn]; rfl, ha⟩) h
theorem r_iadd {x y : Int} (hc : lk p_law pc = some (.iadd)) (h : LWK sl xs d (pc + 1) L (iv (x + y) :: st) S) : LWK sl xs d pc L (iv y :: iv x :: st) S :=
  LWK_s hc rfl rfl (fun lv ha => ⟨lv, by show some (pc + 1, lv, Value.int (Int32.ofInt x + Int32.ofInt y) :: st, S) = _; rw [← Int32.ofInt_add]; rfl, ha⟩) h
theorem r_isub {x y : Int} (hc : lk p_law pc = some (.isub)) (h : LWK sl xs d (pc + 1) L (iv (x - y) :: st) S) : LWK sl xs d pc L (iv y :: iv x :: st) S :=
  LWK_s hc rfl rfl (fun lv ha => ⟨lv, by show some (pc + 1, lv, Value.int (Int32.ofInt x - Int32.ofInt y) :: st, S) = _; rw [← Int32.ofInt_sub]; rfl, ha⟩) h
theorem r_icmp_gt {x y off : Int} {t : Nat} (hc : lk p_law pc = some (.if_icmp .gt off)) (ht : jm pc off = some t) (hx : rg x) (hy : rg y) (h1 : y < x → LWK sl xs d t L st S) (h2 : x ≤ y → LWK sl xs d (pc + 3) L st S) : LWK sl xs d pc L (iv y :: iv x :: st) S := by
  by_cases z : y < x
  · exact LWK_s hc rfl rfl (fun lv ha => ⟨lv, by
      show (match jm pc off with | some t => bif cnd .gt (Int32.ofInt x) (Int32.ofInt y) then some (t, lv, st, S) else some (pc + 3, lv, st, S) | none => none) = _
      rw [ht, cn_gt hx hy, decide_eq_true z]; rfl, ha⟩) (h1 z)
  · exact LWK_s hc rfl rfl (fun lv ha => ⟨lv, by
      show (match jm pc off with | some t => bif cnd .gt (Int32.ofInt x) (Int32.ofInt y) then some (t, lv, st, S) else some (pc + 3, lv, st, S) | none => none) = _
      rw [ht, cn_gt hx hy, decide_eq_false z]; rfl, ha⟩) (h2 (Int.not_lt.mp z))
theorem r_icmp_eq {x y off : Int} {t : Nat} (hc : lk p_law pc = some (.if_icmp .eq off)) (ht : jm pc off = some t) (hx : rg x) (hy : rg y) (h1 : x = y → LWK sl xs d t L st S) (h2 : x ≠ y → LWK sl xs d (pc + 3) L st S) : LWK sl xs d pc L (iv y :: iv x :: st) S := by
  by_cases z : x = y
  · exact LWK_s hc rfl rfl (fun lv ha => ⟨lv, by
      show (match jm pc off with | some t => bif cnd .eq (Int32.ofInt x) (Int32.ofInt y) then some (t, lv, st, S) else some (pc + 3, lv, st, S) | none => none) = _
      rw [ht, cn_eq hx hy, decide_eq_true z]; rfl, ha⟩) (h1 z)
  · exact LWK_s hc rfl rfl (fun lv ha => ⟨lv, by
      show (match jm pc off with | some t => bif cnd .eq (Int32.ofInt x) (Int32.ofInt y) then some (t, lv, st, S) else some (pc + 3, lv, st, S) | none => none) = _
      rw [ht, cn_eq hx hy, decide_eq_false z]; rfl, ha⟩) (h2 (z))
theorem r_goto {off : Int} {t : Nat} (hc : lk p_law pc = some (.goto off)) (ht : jm pc off = some t) (h : LWK sl xs d t L st S) : LWK sl xs d pc L st S :=
  LWK_s hc rfl rfl (fun lv ha => ⟨lv, by show (match jm pc off with | some t => some (t, lv, st, S) | none => none) = _; rw [ht], ha⟩) h
theorem r_i2l {x : Int} (hc : lk p_law pc = some .i2l) (hx : rg x) (h : LWK sl xs d (pc + 1) L (jw x :: st) S) : LWK sl xs d pc L (iv x :: st) S :=
  LWK_s hc rfl rfl (fun lv ha => ⟨lv, by
    show some (pc + 1, lv, Value.long (Int32.ofInt x).toInt64 :: st, S) = _
    have e : (Int32.ofInt x).toInt64 = Int64.ofInt x := by
      rw [← ofJ_toJ (v := (Int32.ofInt x).toInt64), Int32.toInt_toInt64, toI hx]
    rw [e]; rfl, ha⟩) h
theorem r_ldc2 {ix : Nat} {z : Int} (hc : lk p_law pc = some (.ldc2_w ix)) (hz : lkp cT_la ix = some (jw z)) (h : LWK sl xs d (pc + 3) L (jw z :: st) S) : LWK sl xs d pc L st S :=
  LWK_s hc rfl rfl (fun lv ha => ⟨lv, by
    show (match lkp cT_la ix with | some (.long v) => some (pc + 3, lv, Value.long v :: st, S) | _ => none) = _
    rw [hz]; rfl, ha⟩) h
theorem r_iandF {x y : Int} (hc : lk p_law pc = some .iand) (h : LWK sl xs d (pc + 1) L (iv (iandF x y) :: st) S) : LWK sl xs d pc L (iv y :: iv x :: st) S :=
  LWK_s hc rfl rfl (fun lv ha => ⟨lv, by
    show some (pc + 1, lv, Value.int (Int32.ofInt x &&& Int32.ofInt y) :: st, S) = _
    unfold iv iandF; rw [ofI_toI], ha⟩) h
theorem r_lorF {x y : Int} (hc : lk p_law pc = some .lor) (h : LWK sl xs d (pc + 1) L (jw (lorF x y) :: st) S) : LWK sl xs d pc L (jw y :: jw x :: st) S :=
  LWK_s hc rfl rfl (fun lv ha => ⟨lv, by
    show some (pc + 1, lv, Value.long (Int64.ofInt x ||| Int64.ofInt y) :: st, S) = _
    unfold jw lorF; rw [ofJ_toJ], ha⟩) h
theorem r_landF {x y : Int} (hc : lk p_law pc = some .land) (h : LWK sl xs d (pc + 1) L (jw (landF x y) :: st) S) : LWK sl xs d pc L (jw y :: jw x :: st) S :=
  LWK_s hc rfl rfl (fun lv ha => ⟨lv, by
    show some (pc + 1, lv, Value.long (Int64.ofInt x &&& Int64.ofInt y) :: st, S) = _
    unfold jw landF; rw [ofJ_toJ], ha⟩) h
theorem r_lshlF {x y : Int} (hc : lk p_law pc = some .lshl) (h : LWK sl xs d (pc + 1) L (jw (lshlF x y) :: st) S) : LWK sl xs d pc L (iv y :: jw x :: st) S :=
  LWK_s hc rfl rfl (fun lv ha => ⟨lv, by
    show some (pc + 1, lv, Value.long (Int64.ofInt x <<< ((Int32.ofInt y).toInt64 &&& 63)) :: st, S) = _
    unfold jw lshlF; rw [ofJ_toJ], ha⟩) h
theorem r_tsw {x df lo hi : Int} {offs : Array Int} {t0 : Nat} {ts : List Nat} (hc : lk p_law pc = some (.tableswitch df lo hi offs)) (h0 : jm pc df = some t0) (ht : tgs pc offs.toList = some ts) (hn : (hi - lo + 1).toNat = offs.toList.length) (hx : rg x) (h1 : (x < lo ∨ hi < x) → LWK sl xs d t0 L st S) (h2 : ∀ (i : Nat) (t : Nat), ts[i]? = some t → x = lo + i → LWK sl xs d t L st S) : LWK sl xs d pc L (iv x :: st) S := by
  have e := toI hx
  by_cases z : x < lo ∨ hi < x
  · refine LWK_s hc rfl rfl (fun lv ha => ⟨lv, ?_, ha⟩) (h1 z)
    show (bif decide ((Int32.ofInt x).toInt < lo ∨ hi < (Int32.ofInt x).toInt) then (match jm pc df with
        | some t => some (t, lv, st, S)
        | none => none) else _) = _
    rw [e, decide_eq_true z, h0]; rfl
  · have hi1 : (x - lo).toNat < offs.toList.length := by omega
    obtain ⟨t, a, b⟩ := tgs_at ht (List.getElem?_eq_getElem hi1)
    refine LWK_s hc rfl rfl (fun lv ha => ⟨lv, ?_, ha⟩) (h2 _ t a (by omega))
    show (bif decide ((Int32.ofInt x).toInt < lo ∨ hi < (Int32.ofInt x).toInt) then _ else (match offs[((Int32.ofInt x).toInt - lo).toNat]? with
        | some o => (match jm pc o with
          | some t => some (t, lv, st, S)
          | none => none)
        | none => none)) = _
    rw [e, decide_eq_false z]
    have e2 : offs[(x - lo).toNat]? = some (offs.toList[(x - lo).toNat]) := by
      rw [← Array.getElem?_toList]; exact List.getElem?_eq_getElem hi1
    show (match offs[(x - lo).toNat]? with
        | some o => (match jm pc o with
          | some t => some (t, lv, st, S)
          | none => none)
        | none => none) = _
    rw [e2]
    show (match jm pc (offs.toList[(x - lo).toNat]) with
          | some t => some (t, lv, st, S)
          | none => none) = _
    rw [b]
end LAWWALK


