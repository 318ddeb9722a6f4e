/-! SAFETY: strings, as the JDK's rows read them -/
theorem str_lenB : ∀ q ∈ strT, q.2.2.2.length < 2 ^ 31 := by decide +kernel
section SAFE
variable {lay : Nat → Nat × Nat} {d pc : Nat} {q : mT} {L : List (Nat × Value)} {st : List Value} {S : sS} {Q : pst}
theorem l_gst {ix j : Nat} {b : Bool} (hc : lk q.2.2.2.2.2 pc = some (.getstatic ix)) (hf : fLs q.2.2.2.2.1 ix = some (91, j, b)) (h : Rl lay d q (pc + 3) L (iv 1 :: st) S Q) : Rl lay d q pc L st S Q :=
  Rl_s hc rfl (fun lv ha => ⟨lv, by
    show (match fLs q.2.2.2.2.1 ix with
      | some (ci, _, _) => bif Nat.beq ci 91 then some (pc + 3, lv, Value.int 1 :: st, S) else none
      | none => none) = _
    rw [hf]; rfl, ha⟩) h
theorem sb_s {i : Nat} (hi : (strT[i]?).isSome = true) : (Nat.ble SB (SB + i) && (strT[SB + i - SB]?).isSome) = true := by
  rw [show SB + i - SB = i by omega, hi, Nat.ble_eq_true_of_le (by omega)]
  rfl
theorem l_strV {ix i : Nat} {b : Bool} (hc : lk q.2.2.2.2.2 pc = some (.getfield ix)) (hf : fLs q.2.2.2.2.1 ix = some (90, 0, b)) (hi : (strT[i]?).isSome = true) (h : Rl lay d q (pc + 3) L (.ref (SV + i) :: st) S Q) : Rl lay d q pc L (.ref (SB + i) :: st) S Q :=
  Rl_s hc rfl (fun lv ha => ⟨lv, by
    show (match fLs q.2.2.2.2.1 ix with
      | some (ci, j, _) => bif Nat.blt ci 90 then (bif layIs lay (SB + i) 0 ci then some (pc + 3, lv, sv (fT ci j) (S.1 (SB + i) j) (S.2.1 (SB + i) j) (S.2.2 (SB + i) j) :: st, S) else none) else (bif Nat.beq ci 90 && (Nat.ble SB (SB + i) && (strT[SB + i - SB]?).isSome) then some (pc + 3, lv, (bif Nat.beq j 0 then Value.ref (SV + (SB + i - SB)) else Value.int 0) :: st, S) else none)
      | none => none) = _
    rw [hf]
    show (bif Nat.beq 90 90 && (Nat.ble SB (SB + i) && (strT[SB + i - SB]?).isSome) then some (pc + 3, lv, Value.ref (SV + (SB + i - SB)) :: st, S) else none) = _
    rw [sb_s hi, show SB + i - SB = i by omega]; rfl, ha⟩) h
theorem l_strC {ix i : Nat} {b : Bool} (hc : lk q.2.2.2.2.2 pc = some (.getfield ix)) (hf : fLs q.2.2.2.2.1 ix = some (90, 1, b)) (hi : (strT[i]?).isSome = true) (h : Rl lay d q (pc + 3) L (iv 0 :: st) S Q) : Rl lay d q pc L (.ref (SB + i) :: st) S Q :=
  Rl_s hc rfl (fun lv ha => ⟨lv, by
    show (match fLs q.2.2.2.2.1 ix with
      | some (ci, j, _) => bif Nat.blt ci 90 then (bif layIs lay (SB + i) 0 ci then some (pc + 3, lv, sv (fT ci j) (S.1 (SB + i) j) (S.2.1 (SB + i) j) (S.2.2 (SB + i) j) :: st, S) else none) else (bif Nat.beq ci 90 && (Nat.ble SB (SB + i) && (strT[SB + i - SB]?).isSome) then some (pc + 3, lv, (bif Nat.beq j 0 then Value.ref (SV + (SB + i - SB)) else Value.int 0) :: st, S) else none)
      | none => none) = _
    rw [hf]
    show (bif Nat.beq 90 90 && (Nat.ble SB (SB + i) && (strT[SB + i - SB]?).isSome) then some (pc + 3, lv, Value.int 0 :: st, S) else none) = _
    rw [sb_s hi]; rfl, ha⟩) h
theorem l_strL {i n : Nat} {x : String × Nat × String × List Int32} (hc : lk q.2.2.2.2.2 pc = some .arraylength) (hi : strT[i]? = some x) (hn : x.2.2.2.length = n) (h : Rl lay d q (pc + 1) L (iv (n : Int) :: st) S Q) : Rl lay d q pc L (.ref (SV + i) :: st) S Q :=
  Rl_s hc rfl (fun lv ha => ⟨lv, by
    show (bif Nat.ble SV (SV + i) then _ else _) = _
    rw [Nat.ble_eq_true_of_le (show SV ≤ SV + i by omega), cond_true, show SV + i - SV = i by omega, hi]
    show some (pc + 1, lv, Value.int (Int32.ofNat x.2.2.2.length) :: st, S) = _
    rw [hn, alen_z]; rfl, ha⟩) h
theorem l_strB {i n : Nat} {z : Int} {x : String × Nat × String × List Int32} (hc : lk q.2.2.2.2.2 pc = some .baload) (hi : strT[i]? = some x) (hn : x.2.2.2.length = n) (h0 : 0 ≤ z) (h1 : z < n) (hz : rg z) (h : Rl lay d q (pc + 1) L (iv (x.2.2.2.getD z.toNat 0).toInt :: st) S Q) : Rl lay d q pc L (iv z :: .ref (SV + i) :: st) S Q :=
  Rl_s hc rfl (fun lv ha => ⟨lv, by
    show (bif Nat.ble SV (SV + i) then _ else _) = _
    rw [Nat.ble_eq_true_of_le (show SV ≤ SV + i by omega), cond_true, show SV + i - SV = i by omega, hi]
    show (bif inb (Int32.ofInt z) x.2.2.2.length then some (pc + 1, lv, Value.int (x.2.2.2.getD (Int32.ofInt z).toNatClampNeg 0) :: st, S) else none) = _
    rw [hn, inb_i h0 h1 hz, ix_i hz]
    show some (pc + 1, lv, Value.int (x.2.2.2.getD z.toNat 0) :: st, S) = _
    unfold iv
    rw [ofI_toI], ha⟩) h
theorem l_callT {ix na : Nat} {md : mT} {Q1 : pst} (hc : lk q.2.2.2.2.2 pc = some (.invokevirtual ix)) (hk : kLs q.2.2.2.2.1 ix = some (4, md, na)) (ho : cOkT na st = true) (hm : Mt lay d md (st.take (na + 1)).reverse S Q1)
    (h : ∀ r S1, Q1 r S1 → Rl lay d q (pc + 3) L (r.toList ++ st.drop (na + 1)) S1 Q) : Rl lay d q pc L st S Q := by
  intro lv ha
  obtain ⟨N, r, S1, hr, hq⟩ := hm
  obtain ⟨N2, r2, S2, hr2, hq2⟩ := h r S1 hq lv ha
  refine ⟨N + N2 + 1, r2, S2, fun F G hF hG => ?_, hq2⟩
  obtain ⟨F, rfl⟩ : ∃ F1, F = F1 + 1 := ⟨F - 1, by omega⟩
  have e1 := hr G (by omega)
  have e2 := hr2 F G (by omega) (by omega)
  unfold run
  rw [hc]
  simp only [hk, ho, e1, cond_true]
  cases r with
  | none => exact e2
  | some v => exact e2
theorem cOkT0 {i : Nat} {st : List Value} (hi : (strT[i]?).isSome = true) (hs : Nat.ble ((st.map (fun v => v.category)).sum) 8 = true) : cOkT 0 (.ref (SB + i) :: st) = true := by
  unfold cOkT
  show (Nat.ble 1 (st.length + 1) && Nat.ble ((st.map (fun v => v.category)).sum) 8 && (Nat.ble SB (SB + i) && (strT[SB + i - SB]?).isSome)) = true
  rw [hs, sb_s hi, Nat.ble_eq_true_of_le (by omega)]
  rfl
theorem cOkT1 {i : Nat} {z : Int} {st : List Value} (hi : (strT[i]?).isSome = true) (hs : Nat.ble ((st.map (fun v => v.category)).sum) 8 = true) : cOkT 1 (iv z :: .ref (SB + i) :: st) = true := by
  unfold cOkT
  show (Nat.ble 2 (st.length + 2) && Nat.ble ((st.map (fun v => v.category)).sum) 8 && (Nat.ble SB (SB + i) && (strT[SB + i - SB]?).isSome)) = true
  rw [hs, sb_s hi, Nat.ble_eq_true_of_le (by omega)]
  rfl
theorem l_i2c {x : Int} (hc : lk q.2.2.2.2.2 pc = some .i2c) (h : ∀ c : Int, (-2147483648 ≤ c ∧ c ≤ 2147483647) → retI (some .char) (Int32.ofInt c) = true → Rl lay d q (pc + 1) L (iv c :: st) S Q) : Rl lay d q pc L (iv x :: st) S Q :=
  Rl_s hc rfl (fun lv ha => ⟨lv, by
    show some (pc + 1, lv, Value.int (((Int32.ofInt x).toUInt32 % 65536).toInt32) :: st, S) = _
    rw [← ofI_toI (v := ((Int32.ofInt x).toUInt32 % 65536).toInt32)]; rfl, ha⟩) (h _ ⟨rg_toI.1, Int.le_of_lt_add_one rg_toI.2⟩ (by
      rw [ofI_toI]
      unfold retI
      refine decide_eq_true ?_
      show Value.int (((((Int32.ofInt x).toUInt32 % 65536).toInt32).toUInt32 % 65536).toInt32) = _
      have e : ∀ u : UInt32, (u % 65536) % 65536 = u % 65536 := fun u => UInt32.toNat_inj.mp (by simp)
      rw [show (((Int32.ofInt x).toUInt32 % 65536).toInt32).toUInt32 = (Int32.ofInt x).toUInt32 % 65536 from rfl, e]))
end SAFE
section STR
variable {S : sS} {i : Nat} {x : String × Nat × String × List Int32}
theorem str_is (h : strT[i]? = some x) : (strT[i]?).isSome = true := by rw [h]; rfl
theorem t_js_coder (h : strT[i]? = some x) (d : Nat) : Mt lay0 (d + 1) m_js_coder [.ref (SB + i)] S (fun r S1 => S = S1 ∧ r = some (iv 0)) := by
  refine Mt_R rfl rfl ?_
  refine l_gst rfl rfl ?_
  refine l_if_eq rfl rfl (by unfold rg; omega) (fun a => absurd a (by omega)) (fun a => ?_)
  refine l_aload_n rfl rfl ?_
  refine l_strC rfl rfl (str_is h) ?_
  refine l_goto rfl rfl ?_
  refine l_ireturn rfl rfl ?_
  exact ⟨rfl, rfl⟩
theorem t_js_isLatin1 (h : strT[i]? = some x) (d : Nat) : Mt lay0 (d + 1) m_js_isLatin1 [.ref (SB + i)] S (fun r S1 => S = S1 ∧ r = some (iv 1)) := by
  refine Mt_R rfl rfl ?_
  refine l_gst rfl rfl ?_
  refine l_if_eq rfl rfl (by unfold rg; omega) (fun a => absurd a (by omega)) (fun a => ?_)
  refine l_aload_n rfl rfl ?_
  refine l_strC rfl rfl (str_is h) ?_
  refine l_if_ne rfl rfl (by unfold rg; omega) (fun a => absurd a (by omega)) (fun a => ?_)
  refine l_iconst rfl ?_
  refine l_goto rfl rfl ?_
  refine l_ireturn rfl rfl ?_
  exact ⟨rfl, rfl⟩
theorem shr0 {n : Int} (h : rg n) : Int32.ofInt n >>> (Int32.ofInt 0 &&& 31) = Int32.ofInt n := by
  have e : (Int32.ofInt 0 &&& 31 : Int32) = 0 := rfl
  rw [e]
  exact Int32.shiftRight_zero
theorem t_js_length (h : strT[i]? = some x) (d : Nat) : Mt lay0 (d + 2) m_js_length [.ref (SB + i)] S (fun r S1 => S = S1 ∧ r = some (iv x.2.2.2.length)) := by
  have hl := str_lenB x (List.mem_of_getElem? h)
  refine Mt_R rfl rfl ?_
  refine l_aload_n rfl rfl ?_
  refine l_strV rfl rfl (str_is h) ?_
  refine l_strL rfl h rfl ?_
  refine l_aload_n rfl rfl ?_
  refine l_callT rfl rfl (cOkT0 (str_is h) rfl) (t_js_coder h _) ?_
  rintro _ _ ⟨rfl, rfl⟩
  show Rl _ _ _ _ _ [iv 0, iv (x.2.2.2.length : Int)] _ _
  refine Rl_s (i := .ishr) (pc1 := 10) (st1 := [iv (x.2.2.2.length : Int)]) (S1 := S) rfl rfl (fun lv ha => ⟨lv, ?_, ha⟩) ?_
  · show some (9 + 1, lv, [Value.int (Int32.ofInt (x.2.2.2.length : Int) >>> (Int32.ofInt 0 &&& 31))], S) = _
    rw [shr0 (by unfold rg; omega)]
    rfl
  · refine l_ireturn rfl rfl ?_
    exact ⟨rfl, rfl⟩
theorem t_js_checkIndex {a n : Int} (h0 : 0 ≤ a) (h1 : a < n) (ha : rg a) (hn : rg n) (d : Nat) : Mt lay0 (d + 1) m_js_checkIndex [iv a, iv n] S (fun r S1 => S = S1 ∧ r = none) := by
  refine ⟨0, none, S, fun G _ => ?_, rfl, rfl⟩
  show ckI [iv a, iv n] S = _
  show (bif decide (¬ Int32.ofInt a < 0) && decide (Int32.ofInt a < Int32.ofInt n) then some (none, S) else none) = _
  have e1 : ¬ Int32.ofInt a < 0 := fun q => by
    have := (i32_lt ha rg0).mp q
    omega
  rw [decide_eq_true e1, decide_eq_true ((i32_lt ha hn).mpr h1)]
  rfl
theorem t_jl_charAt (h : strT[i]? = some x) {a : Int} (h0 : 0 ≤ a) (h1 : a < x.2.2.2.length) (d : Nat) : Mt lay0 (d + 2) m_jl_charAt [.ref (SV + i), iv a] S (fun r S1 => S = S1 ∧ ∃ c : Int, r = some (iv c) ∧ (-2147483648 ≤ c ∧ c ≤ 2147483647) ∧ retI (some .char) (Int32.ofInt c) = true) := by
  have hl := str_lenB x (List.mem_of_getElem? h)
  refine Mt_R rfl rfl ?_
  refine l_iload_n rfl rfl ?_
  refine l_aload_n rfl rfl ?_
  refine l_strL rfl h rfl ?_
  refine l_callS rfl rfl (by decide) rfl (t_js_checkIndex h0 h1 (by unfold rg; omega) (by unfold rg; omega) _) ?_
  rintro _ _ ⟨rfl, rfl⟩
  show Rl _ _ _ _ _ [] _ _
  refine l_aload_n rfl rfl ?_
  refine l_iload_n rfl rfl ?_
  refine l_strB rfl h rfl h0 h1 (by unfold rg; omega) ?_
  refine l_sipush rfl rfl ?_
  refine l_iandF rfl ?_
  refine l_i2c rfl (fun c hc hr => ?_)
  refine l_ireturn rfl hr ?_
  exact ⟨rfl, c, rfl, hc, hr⟩
theorem t_js_charAt (h : strT[i]? = some x) {a : Int} (h0 : 0 ≤ a) (h1 : a < x.2.2.2.length) (d : Nat) : Mt lay0 (d + 3) m_js_charAt [.ref (SB + i), iv a] S (fun r S1 => S = S1 ∧ ∃ c : Int, r = some (iv c) ∧ (-2147483648 ≤ c ∧ c ≤ 2147483647)) := by
  refine Mt_R rfl rfl ?_
  refine l_aload_n rfl rfl ?_
  refine l_callT rfl rfl (cOkT0 (str_is h) rfl) (t_js_isLatin1 h _) ?_
  rintro _ _ ⟨rfl, rfl⟩
  show Rl _ _ _ _ _ [iv 1] _ _
  refine l_if_eq rfl rfl (by unfold rg; omega) (fun a => absurd a (by omega)) (fun a => ?_)
  refine l_aload_n rfl rfl ?_
  refine l_strV rfl rfl (str_is h) ?_
  refine l_iload_n rfl rfl ?_
  refine l_callS rfl rfl (by decide) rfl (t_jl_charAt h h0 h1 _) ?_
  rintro _ _ ⟨rfl, c, rfl, hc, hr⟩
  show Rl _ _ _ _ _ [iv c] _ _
  refine l_ireturn rfl hr ?_
  exact ⟨rfl, c, rfl, hc⟩
end STR
theorem l_ldcR {lay : Nat → Nat × Nat} {d pc : Nat} {q : mT} {L : List (Nat × Value)} {st : List Value} {S : sS} {Q : pst} {ix i : Nat} (hc : lk q.2.2.2.2.2 pc = some (.ldc ix)) (hz : cLs q.2.2.2.2.1 ix = some (.ref (SB + i))) (h : Rl lay d q (pc + 2) L (.ref (SB + i) :: st) S Q) : Rl lay d q pc L st S Q :=
  Rl_s hc rfl (fun lv ha => ⟨lv, by
    show (match cLs q.2.2.2.2.1 ix with | some (.int v) => some (pc + 2, lv, Value.int v :: st, S) | some (.ref k) => some (pc + 2, lv, Value.ref k :: st, S) | _ => none) = _
    rw [hz], ha⟩) h
theorem l_ldcwR {lay : Nat → Nat × Nat} {d pc : Nat} {q : mT} {L : List (Nat × Value)} {st : List Value} {S : sS} {Q : pst} {ix i : Nat} (hc : lk q.2.2.2.2.2 pc = some (.ldc_w ix)) (hz : cLs q.2.2.2.2.1 ix = some (.ref (SB + i))) (h : Rl lay d q (pc + 3) L (.ref (SB + i) :: st) S Q) : Rl lay d q pc L st S Q :=
  Rl_s hc rfl (fun lv ha => ⟨lv, by
    show (match cLs q.2.2.2.2.1 ix with | some (.int v) => some (pc + 3, lv, Value.int v :: st, S) | some (.ref k) => some (pc + 3, lv, Value.ref k :: st, S) | _ => none) = _
    rw [hz], ha⟩) h
theorem str_sm {i : Nat} {x : String × Nat × String × List Int32} (h : strT[i]? = some x) : x.2.2.2.length < 400 := by
  have a : ∀ q ∈ strT, q.2.2.2.length < 400 := by decide +kernel
  exact a x (List.mem_of_getElem? h)

/-! what the class's questions answer, as functions of the cells -/
theorem tn_s {a i : Int} (hi : i < a) : (a - i).toNat = (a - (i + 1)).toNat + 1 := by omega
theorem tn_z {a i : Int} (hi : a ≤ i) : (a - i).toNat = 0 := by omega
def isKn (S : sS) (o : Int) : Nat → Int → Int
  | 0, _ => 0
  | n + 1, k => if k < 0 then 0 else if k = o then 1 else isKn S o n (Xi S 6 k.toNat)
def isK (S : sS) (k o : Int) : Int := isKn S o 16 k
theorem isKn_e {S : sS} {o k i : Int} (h : k < 0 ∨ 16 ≤ i) : isKn S o (16 - i).toNat k = 0 := by
  rcases h with h | h
  · cases (16 - i).toNat with
    | zero => rfl
    | succ n => unfold isKn; rw [if_pos h]
  · rw [tn_z h]; rfl
theorem isKn_f {S : sS} {o k i : Int} (h0 : 0 ≤ k) (hi : i < 16) (h : k = o) : isKn S o (16 - i).toNat k = 1 := by
  rw [tn_s hi]; unfold isKn; rw [if_neg (by omega), if_pos h]
theorem isKn_s {S : sS} {o k i : Int} (h0 : 0 ≤ k) (hi : i < 16) (h : k ≠ o) : isKn S o (16 - i).toNat k = isKn S o (16 - (i + 1)).toNat (Xi S 6 k.toNat) := by
  rw [tn_s hi]; show (if k < 0 then 0 else if k = o then 1 else _) = _; rw [if_neg (by omega), if_neg h]
def kabn (S : sS) : Nat → Int → Int → Int
  | 0, _, c => c
  | n + 1, k, c => if k < 0 then c else kabn S n (Xi S 6 k.toNat) (c + 1)
def kab (S : sS) (k : Int) : Int := kabn S 16 (Xi S 6 k.toNat) 0
theorem kabn_e {S : sS} {k i c : Int} (h : k < 0 ∨ 16 ≤ i) : kabn S (16 - i).toNat k c = c := by
  rcases h with h | h
  · cases (16 - i).toNat with
    | zero => rfl
    | succ n => unfold kabn; rw [if_pos h]
  · rw [tn_z h]; rfl
theorem kabn_s {S : sS} {k i c : Int} (h0 : 0 ≤ k) (hi : i < 16) : kabn S (16 - i).toNat k c = kabn S (16 - (i + 1)).toNat (Xi S 6 k.toNat) (c + 1) := by
  rw [tn_s hi]; show (if k < 0 then c else _) = _; rw [if_neg (by omega)]
def adjn (S : sS) (k : Int) : Nat → Int → Int → Int
  | 0, _, c => c
  | n + 1, i, c => adjn S k n (i + 1) (if isK S k (Xi S 10 i.toNat) = 0 then c else c + 1)
def adjs (S : sS) (k : Int) : Int := adjn S k (Xi S 5 3).toNat 0 0
def valn (S : sS) (t : Int) : Nat → Int → Int → Int
  | 0, _, c => c
  | n + 1, i, c => valn S t n (i + 1) (c + (if Xi S 8 i.toNat = t then 1 else 0))
def vals (S : sS) (t : Int) : Int := valn S t (Xi S 5 4).toNat 0 0
def fvn (S : sS) (t : Int) : Nat → Int → Int
  | 0, _ => -1
  | n + 1, i => if Xi S 8 i.toNat = t then i else fvn S t n (i + 1)
def fvo (S : sS) (t : Int) : Int := fvn S t (Xi S 5 4).toNat 0
theorem fvn_f {S : sS} {t a i : Int} (hi : i < a) (h : Xi S 8 i.toNat = t) : fvn S t (a - i).toNat i = i := by
  rw [tn_s hi]; unfold fvn; rw [if_pos h]
theorem fvn_s {S : sS} {t a i : Int} (hi : i < a) (h : Xi S 8 i.toNat ≠ t) : fvn S t (a - i).toNat i = fvn S t (a - (i + 1)).toNat (i + 1) := by
  rw [tn_s hi]; show (if _ then _ else _) = _; rw [if_neg h]
theorem fvn_e {S : sS} {t a i : Int} (hi : a ≤ i) : fvn S t (a - i).toNat i = -1 := by rw [tn_z hi]; rfl
/-- the row that tells a property -/
def trwn (S : sS) (p : Nat) : Nat → Int → Int
  | 0, _ => -1
  | n + 1, k => if k < 0 then -1 else if Xi S (66 + (24 + k).toNat) p = 0 then trwn S p n (Xi S 6 k.toNat) else 24 + k
def trw (S : sS) (o : Int) (p : Nat) : Int := if Xi S (66 + o.toNat) p = 0 then trwn S p 16 (Xi S 21 o.toNat) else o
theorem trwn_e {S : sS} {p : Nat} {k i : Int} (h : k < 0 ∨ 16 ≤ i) : trwn S p (16 - i).toNat k = -1 := by
  rcases h with h | h
  · cases (16 - i).toNat with
    | zero => rfl
    | succ n => unfold trwn; rw [if_pos h]
  · rw [tn_z h]; rfl
theorem trwn_f {S : sS} {p : Nat} {k i : Int} (h0 : 0 ≤ k) (hi : i < 16) (h : Xi S (66 + (24 + k).toNat) p ≠ 0) : trwn S p (16 - i).toNat k = 24 + k := by
  rw [tn_s hi]; unfold trwn; rw [if_neg (by omega), if_neg h]
theorem trwn_s {S : sS} {p : Nat} {k i : Int} (h0 : 0 ≤ k) (hi : i < 16) (h : Xi S (66 + (24 + k).toNat) p = 0) : trwn S p (16 - i).toNat k = trwn S p (16 - (i + 1)).toNat (Xi S 6 k.toNat) := by
  rw [tn_s hi]; show (if k < 0 then -1 else if _ then _ else _) = _; rw [if_neg (by omega), if_pos h]
def vof (S : sS) (o : Int) (p : Nat) : Int := if trw S o p = -1 then (if Xi S 9 p = 0 ∨ Xi S 9 p = 1 then 0 else fvo S (Xi S 9 p)) else Xi S (107 + (trw S o p).toNat) p
def lof (S : sS) (o : Int) (p : Nat) : Int := if trw S o p = -1 then 0 else Xi S (148 + (trw S o p).toNat) p
theorem trw_row {S : sS} {o : Int} {p : Nat} (h0 : 0 ≤ o) (ho : o ≤ 23) (hH : HI S) : trw S o p = -1 ∨ (0 ≤ trw S o p ∧ trw S o p ≤ 39 ∧ Xi S (66 + (trw S o p).toNat) p ≠ 0) := by
  unfold trw
  split
  · have : ∀ (n : Nat) (k : Int), k ≤ 15 → trwn S p n k = -1 ∨ (0 ≤ trwn S p n k ∧ trwn S p n k ≤ 39 ∧ Xi S (66 + (trwn S p n k).toNat) p ≠ 0) := by
      intro n
      induction n with
      | zero => intro k _; exact Or.inl rfl
      | succ n ih =>
        intro k hk
        unfold trwn
        split
        · exact Or.inl rfl
        · split
          · have h6 : -1 ≤ Xi S 6 k.toNat ∧ Xi S 6 k.toNat ≤ 15 := hH.c _ _
            exact ih _ h6.2
          · next a b => exact Or.inr ⟨by omega, by omega, b⟩
    have h21 : 0 ≤ Xi S 21 o.toNat ∧ Xi S 21 o.toNat ≤ 15 := hH.c _ _
    exact this _ _ h21.2
  · next h => exact Or.inr ⟨h0, by omega, h⟩
/-- an adjective that is not defined -/
def hasn (S : sS) (a : Nat) : Nat → Int → Int → Int
  | 0, _, s => s
  | n + 1, k, s => if k < 0 ∨ s ≠ 0 then s else hasn S a n (Xi S 6 k.toNat) (Xi S (25 + (24 + k).toNat) a)
theorem hasn_e {S : sS} {a : Nat} {k i s : Int} (h : k < 0 ∨ s ≠ 0 ∨ 16 ≤ i) : hasn S a (16 - i).toNat k s = s := by
  by_cases hk : k < 0 ∨ s ≠ 0
  · cases (16 - i).toNat with
    | zero => rfl
    | succ n => unfold hasn; rw [if_pos hk]
  · rw [tn_z (by omega)]; rfl
theorem hasn_s {S : sS} {a : Nat} {k i s : Int} (h0 : 0 ≤ k) (hi : i < 16) (h : s = 0) : hasn S a (16 - i).toNat k s = hasn S a (16 - (i + 1)).toNat (Xi S 6 k.toNat) (Xi S (25 + (24 + k).toNat) a) := by
  rw [tn_s hi]; show (if _ then _ else _) = _; rw [if_neg (by omega)]
def hasS (S : sS) (o : Int) (a : Nat) : Int := hasn S a 16 (Xi S 21 o.toNat) (Xi S (25 + o.toNat) a)
def hasA (S : sS) (o a : Int) : Int := if hasS S o a.toNat = 0 then (if Xi S 11 a.toNat < a then 1 else 0) else if 0 < hasS S o a.toNat then 1 else 0
/-- within by any steps -/
def isWn (S : sS) (x : Int) : Nat → Int → Int
  | 0, _ => 0
  | n + 1, o => if o < 0 then 0 else if o = x then 1 else isWn S x n (Xi S 23 o.toNat)
def isW (S : sS) (o x : Int) : Int := isWn S x 25 o
theorem isWn_e {S : sS} {o x i : Int} (h : o < 0 ∨ 25 ≤ i) : isWn S x (25 - i).toNat o = 0 := by
  rcases h with h | h
  · cases (25 - i).toNat with
    | zero => rfl
    | succ n => unfold isWn; rw [if_pos h]
  · rw [tn_z h]; rfl
theorem isWn_f {S : sS} {o x i : Int} (h0 : 0 ≤ o) (hi : i < 25) (h : o = x) : isWn S x (25 - i).toNat o = 1 := by
  rw [tn_s hi]; unfold isWn; rw [if_neg (by omega), if_pos h]
theorem isWn_s {S : sS} {o x i : Int} (h0 : 0 ≤ o) (hi : i < 25) (h : o ≠ x) : isWn S x (25 - i).toNat o = isWn S x (25 - (i + 1)).toNat (Xi S 23 o.toNat) := by
  rw [tn_s hi]; show (if o < 0 then 0 else if o = x then 1 else _) = _; rw [if_neg (by omega), if_neg h]
def ppn (S : sS) : Nat → Int → Int → Int
  | 0, _, a => a
  | n + 1, k, a => if k < 0 then a else ppn S n (Xi S 6 k.toNat) (iorF a (Xi S 7 k.toNat))
def pps (S : sS) (k : Int) : Int := ppn S 16 k 0
theorem ppn_e {S : sS} {k i a : Int} (h : k < 0 ∨ 16 ≤ i) : ppn S (16 - i).toNat k a = a := by
  rcases h with h | h
  · cases (16 - i).toNat with
    | zero => rfl
    | succ n => unfold ppn; rw [if_pos h]
  · rw [tn_z h]; rfl
theorem ppn_s {S : sS} {k i a : Int} (h0 : 0 ≤ k) (hi : i < 16) : ppn S (16 - i).toNat k a = ppn S (16 - (i + 1)).toNat (Xi S 6 k.toNat) (iorF a (Xi S 7 k.toNat)) := by
  rw [tn_s hi]; show (if k < 0 then a else _) = _; rw [if_neg (by omega)]
theorem adjn_0 {S : sS} {k i c a : Int} (hi : i < a) (h : isK S k (Xi S 10 i.toNat) = 0) : adjn S k (a - i).toNat i c = adjn S k (a - (i + 1)).toNat (i + 1) c := by
  rw [tn_s hi]; show adjn S k _ (i + 1) (if _ then _ else _) = _; rw [if_pos h]
theorem adjn_1 {S : sS} {k i c a : Int} (hi : i < a) (h : isK S k (Xi S 10 i.toNat) ≠ 0) : adjn S k (a - i).toNat i c = adjn S k (a - (i + 1)).toNat (i + 1) (c + 1) := by
  rw [tn_s hi]; show adjn S k _ (i + 1) (if _ then _ else _) = _; rw [if_neg h]
theorem adjn_e {S : sS} {k i c a : Int} (hi : a ≤ i) : adjn S k (a - i).toNat i c = c := by rw [tn_z hi]; rfl
theorem valn_1 {S : sS} {t i c a : Int} (hi : i < a) (h : Xi S 8 i.toNat = t) : valn S t (a - i).toNat i c = valn S t (a - (i + 1)).toNat (i + 1) (c + 1) := by
  rw [tn_s hi]; show valn S t _ (i + 1) (c + if _ then _ else _) = _; rw [if_pos h]
theorem valn_0 {S : sS} {t i c a : Int} (hi : i < a) (h : Xi S 8 i.toNat ≠ t) : valn S t (a - i).toNat i c = valn S t (a - (i + 1)).toNat (i + 1) (c + 0) := by
  rw [tn_s hi]; show valn S t _ (i + 1) (c + if _ then _ else _) = _; rw [if_neg h]
theorem valn_e {S : sS} {t i c a : Int} (hi : a ≤ i) : valn S t (a - i).toNat i c = c := by rw [tn_z hi]; rfl
theorem vof_r {S : sS} {o z : Int} {p : Nat} (h : z = trw S o p) (hz : z ≠ -1) : Xi S (107 + z.toNat) p = vof S o p := by unfold vof; rw [← h, if_neg hz]
theorem vof_0 {S : sS} {o z : Int} {p : Nat} (h : z = trw S o p) (hz : z = -1) (ht : Xi S 9 p = 0 ∨ Xi S 9 p = 1) : 0 = vof S o p := by unfold vof; rw [← h, if_pos hz, if_pos ht]
theorem vof_f {S : sS} {o z f : Int} {p : Nat} (h : z = trw S o p) (hz : z = -1) (ht : ¬ (Xi S 9 p = 0 ∨ Xi S 9 p = 1)) (hf : f = fvo S (Xi S 9 p)) : f = vof S o p := by unfold vof; rw [← h, if_pos hz, if_neg ht]; exact hf
theorem lof_r {S : sS} {o z : Int} {p : Nat} (h : z = trw S o p) (hz : z ≠ -1) : Xi S (148 + z.toNat) p = lof S o p := by unfold lof; rw [← h, if_neg hz]
theorem lof_0 {S : sS} {o z : Int} {p : Nat} (h : z = trw S o p) (hz : z = -1) : 0 = lof S o p := by unfold lof; rw [← h, if_pos hz]
theorem hasA_s {S : sS} {o a s : Int} (h : hasS S o a.toNat = s) (h0 : s ≠ 0) : hasA S o a = if 0 < s then 1 else 0 := by unfold hasA; rw [h, if_neg h0]
theorem hasA_0 {S : sS} {o a s : Int} (h : hasS S o a.toNat = s) (h0 : s = 0) : hasA S o a = if Xi S 11 a.toNat < a then 1 else 0 := by unfold hasA; rw [h, if_pos h0]
def relF (S : sS) (r a b : Int) : Int := if iandF (ishrF (Xi S (189 + r.toNat) a.toNat) b) 1 = 1 then 1 else 0
def rbn (S : sS) (k : Nat) (room : Int) : Nat → Int → Int → Int
  | 0, _, f => f
  | n + 1, b, f => rbn S k room n (b + 1) (if Xi S (196 + b.toNat) k = room ∧ (f = -1 ∨ Xi S (221 + b.toNat) k < Xi S (221 + f.toNat) k) then b else f)
def rbh (S : sS) (room d : Int) : Int := if Xi S (196 + room.toNat) d.toNat = -1 then rbn S (ixorF d 1).toNat room 24 0 (-1) else Xi S (196 + room.toNat) d.toNat
theorem rbn_y {S : sS} {k : Nat} {room i f : Int} (hi : i < 24) (h : Xi S (196 + i.toNat) k = room ∧ (f = -1 ∨ Xi S (221 + i.toNat) k < Xi S (221 + f.toNat) k)) : rbn S k room (24 - i).toNat i f = rbn S k room (24 - (i + 1)).toNat (i + 1) i := by
  rw [tn_s hi]; show rbn S k room _ (i + 1) (if _ then _ else _) = _; rw [if_pos h]
theorem rbn_n {S : sS} {k : Nat} {room i f : Int} (hi : i < 24) (h : ¬ (Xi S (196 + i.toNat) k = room ∧ (f = -1 ∨ Xi S (221 + i.toNat) k < Xi S (221 + f.toNat) k))) : rbn S k room (24 - i).toNat i f = rbn S k room (24 - (i + 1)).toNat (i + 1) f := by
  rw [tn_s hi]; show rbn S k room _ (i + 1) (if _ then _ else _) = _; rw [if_neg h]
theorem rbn_e {S : sS} {k : Nat} {room i f : Int} (hi : 24 ≤ i) : rbn S k room (24 - i).toNat i f = f := by rw [tn_z hi]; rfl
theorem rbh_0 {S : sS} {room d : Int} (h : Xi S (196 + room.toNat) d.toNat = -1) : rbh S room d = rbn S (ixorF d 1).toNat room (24 - 0 : Int).toNat 0 (-1) := by unfold rbh; rw [if_pos h]; rfl
theorem rbh_1 {S : sS} {room d : Int} (h : Xi S (196 + room.toNat) d.toNat ≠ -1) : Xi S (196 + room.toNat) d.toNat = rbh S room d := by unfold rbh; rw [if_neg h]
theorem trw_0 {S : sS} {o : Int} {p : Nat} (h : Xi S (66 + o.toNat) p = 0) : trw S o p = trwn S p (16 - 0 : Int).toNat (Xi S 21 o.toNat) := by unfold trw; rw [if_pos h]; rfl
theorem trw_1 {S : sS} {o : Int} {p : Nat} (h : Xi S (66 + o.toNat) p ≠ 0) : o = trw S o p := by unfold trw; rw [if_neg h]
/-- two texts of one row are alike -/
def smn (S : sS) (t : Nat) (a b : Int) : Nat → Int → Int
  | 0, _ => 1
  | n + 1, i => if Xi S t (a + i).toNat = Xi S t (b + i).toNat then smn S t a b n (i + 1) else 0
def txr (S : sS) : Nat := (S.2.2 20 1).getD 0
def smT (S : sS) (a la b lb : Int) : Int := if la = lb then smn S (txr S) a b la.toNat 0 else 0
theorem smn_e {S : sS} {t : Nat} {a b n i : Int} (h : n ≤ i) : smn S t a b (n - i).toNat i = 1 := by rw [tn_z h]; rfl
theorem smn_s {S : sS} {t : Nat} {a b n i : Int} (hi : i < n) (h : Xi S t (a + i).toNat = Xi S t (b + i).toNat) : smn S t a b (n - i).toNat i = smn S t a b (n - (i + 1)).toNat (i + 1) := by
  rw [tn_s hi]; show (if _ then _ else _) = _; rw [if_pos h]
theorem smn_f {S : sS} {t : Nat} {a b n i : Int} (hi : i < n) (h : Xi S t (a + i).toNat ≠ Xi S t (b + i).toNat) : smn S t a b (n - i).toNat i = 0 := by
  rw [tn_s hi]; unfold smn; rw [if_neg h]
theorem smT_0 {S : sS} {a la b lb : Int} (h : la = lb) : smT S a la b lb = smn S (txr S) a b (la - 0).toNat 0 := by unfold smT; rw [if_pos h, Int.sub_zero]
theorem smT_n {S : sS} {a la b lb : Int} (h : la ≠ lb) : 0 = smT S a la b lb := by unfold smT; rw [if_neg h]
def p27 (z : Int) : Int := 27 ^ (z - 1).toNat
theorem p27_1 : (1 : Int) = p27 1 := rfl
theorem p27_s {z v : Int} (h : v = p27 z) (hz : 1 ≤ z) : v * 27 = p27 (z + 1) := by
  unfold p27 at *
  rw [show (z + 1 - 1).toNat = (z - 1).toNat + 1 by omega, Int.pow_succ, h]
theorem p27_pos (n : Nat) : (1 : Int) ≤ 27 ^ n := by
  induction n with
  | zero => decide
  | succ n ih => rw [Int.pow_succ]; omega
theorem p27_b {z v : Int} (h : v = p27 z) (hv : v ≤ 341606371735362066) : z ≤ 13 := by
  apply Classical.byContradiction
  intro hz
  unfold p27 at h
  have e : (z - 1).toNat = ((z - 1).toNat - 13) + 13 := by omega
  have a : (27 : Int) ^ (z - 1).toNat = 27 ^ ((z - 1).toNat - 13) * 27 ^ 13 := by rw [← Int.pow_add, ← e]
  have b := p27_pos ((z - 1).toNat - 13)
  rw [h, a] at hv
  have c : (27 : Int) ^ 13 = 4052555153018976267 := by decide
  rw [c] at hv
  omega
def mnV (S : sS) (a b : Int) : Int := if 1 ≤ b - a ∧ b - a ≤ 3 ∧ 0 ≤ a ∧ b ≤ 5130 then mnR S 879 a.toNat (b - a).toNat else -1
theorem mnV_of {S : sS} {a b z : Int} (h1 : 1 ≤ b - a → b - a ≤ 3 → 0 ≤ a → b ≤ ((5130 : Nat) : Int) → z = mnR S 879 a.toNat (b - a).toNat) (h2 : b - a < 1 ∨ 3 < b - a ∨ a < 0 ∨ ((5130 : Nat) : Int) < b → z = -1) : mnV S a b = z := by
  unfold mnV
  split
  · next h => exact (h1 h.1 h.2.1 h.2.2.1 h.2.2.2).symm
  · next h => exact (h2 (by omega)).symm
def fnd (S : sS) (s a b : Int) : Int := if mnV S a b / 256 = s then mnV S a b % 256 else -1
theorem fnd_y {S : sS} {s a b m : Int} (hm : mnV S a b = m) (h : m / 256 = s) : m % 256 = fnd S s a b := by unfold fnd; rw [hm, if_pos h]
theorem fnd_n {S : sS} {s a b m : Int} (hm : mnV S a b = m) (h : m / 256 ≠ s) : -1 = fnd S s a b := by unfold fnd; rw [hm, if_neg h]
/-- the row behind the free words that stand at a row -/
def ren (S : sS) (lim : Int) : Nat → Int → Int
  | 0, r => r
  | n + 1, r => if 0 ≤ r ∧ r < lim ∧ r < Xi S 876 7 ∧ Xi S 877 r.toNat = 100 then ren S lim n (r + 1) else r
def ruF (S : sS) (a lim : Int) : Int := ren S lim 5131 a
theorem ren_e {S : sS} {lim r : Int} {n : Nat} (h : ¬ (0 ≤ r ∧ r < lim ∧ r < Xi S 876 7 ∧ Xi S 877 r.toNat = 100)) : ren S lim n r = r := by
  cases n with
  | zero => rfl
  | succ n => unfold ren; rw [if_neg h]
theorem ren_s {S : sS} {lim r a : Int} (h : 0 ≤ r ∧ r < lim ∧ r < Xi S 876 7 ∧ Xi S 877 r.toNat = 100) (hk : r - a < 5131) : ren S lim (5131 - (r - a)).toNat r = ren S lim (5131 - (r + 1 - a)).toNat (r + 1) := by
  rw [show (5131 - (r - a)).toNat = (5131 - (r + 1 - a)).toNat + 1 by omega]
  show (if _ then _ else _) = _
  rw [if_pos h]
theorem ru_0 {S : sS} {a lim : Int} : ruF S a lim = ren S lim (5131 - (a - a)).toNat a := by rw [show (5131 - (a - a)).toNat = 5131 by omega]; rfl
def bgr (S : sS) (r a : Int) : Int := if a ≤ r ∧ r < Xi S 876 7 ∧ Xi S 877 r.toNat = 100 ∧ (r = a ∨ Xi S 877 (r - 1).toNat ≠ 100) then 1 else 0
def bgn (S : sS) (r : Int) : Int := if bgr S r 0 = 1 ∧ r < Xi S 890 3 then 1 else 0

/-! SAFETY: texts, clauses, definitions, rules -/
def SM (ds : List rec) (S S1 : sS) : Prop := ∀ k j, mdf ds k j = true → S1.1 k j = S.1 k j ∧ S1.2.1 k j = S.2.1 k j ∧ S1.2.2 k j = S.2.2 k j
theorem SM.x {ds : List rec} {S S1 : sS} (h : SM ds S S1) (k j : Nat) (e : mdf ds k j = true) : Xi S1 k j = Xi S k j := by unfold Xi; rw [(h k j e).1]
def TXT (S : sS) (v n : Int) : Prop := n ≤ 0 ∨ (0 ≤ v ∧ v + n ≤ 5000 ∧ S.2.2 20 1 = some (txr S) ∧ tp (txr S))
theorem txe {S : sS} {v n : Int} (h : TXT S v n) (hn : 0 < n) : S.2.2 20 1 = some (txr S) ∧ tp (txr S) := by
  rcases h with h | h
  · omega
  · exact h.2.2
theorem TXT.b {S : sS} {v n : Int} (h : TXT S v n) (hn : 0 < n) : 0 ≤ v ∧ v + n ≤ 5000 := by
  rcases h with h | h
  · omega
  · exact ⟨h.1, h.2.1⟩
theorem TXT_eq {S S1 : sS} {v n : Int} (h : S1.2.2 20 1 = S.2.2 20 1) (ht : TXT S v n) : TXT S1 v n := by
  unfold TXT txr at *
  rw [h]
  exact ht
def WHO (b : Prop) (x : Int) : Prop := 0 ≤ x ∨ (x = -2 ∧ b)
theorem WHO.mono {b c : Prop} {x : Int} (h : b → c) (hw : WHO b x) : WHO c x := hw.elim Or.inl (fun e => Or.inr ⟨e.1, h e.2⟩)
/-- how many [ there are in the first bytes of a text -/
def nbr (S : sS) (t : Nat) (v : Int) : Nat → Int
  | 0 => 0
  | n + 1 => nbr S t v n + (if Xi S t (v + n).toNat = 91 then 1 else 0)
def INS (S : sS) (b : Prop) (w v n : Int) : Prop := (w + nbr S (txr S) v n.toNat ≤ Xi S 246 8 ∨ 1666 ≤ Xi S 246 8) ∧ ∀ j : Nat, w ≤ j → (j : Int) < w + nbr S (txr S) v n.toNat → (j : Int) < Xi S 246 8 → Xi S 275 j ≠ -1 → WHO b (Xi S 274 j)
def CLok (S : sS) (b : Prop) (c : Nat) : Prop :=
  (Xi S (276 + c) 0 = 0 → WHO b (Xi S (276 + c) 2) ∧ 0 ≤ Xi S (276 + c) 3 ∧ Xi S (276 + c) 3 < Xi S 5 3) ∧
  ((Xi S (276 + c) 0 = 1 ∨ Xi S (276 + c) 0 = 4) → (WHO b (Xi S (276 + c) 2) ∧ 0 ≤ Xi S (276 + c) 3 ∧ Xi S (276 + c) 3 ≤ 11) ∧ TXT S (Xi S (276 + c) 4) (Xi S (276 + c) 5)) ∧
  ((Xi S (276 + c) 0 = 2 ∨ Xi S (276 + c) 0 = 3 ∨ Xi S (276 + c) 0 = 9) → WHO b (Xi S (276 + c) 2) ∧ 0 ≤ Xi S (276 + c) 3 ∧ Xi S (276 + c) 3 ≤ 11) ∧
  (Xi S (276 + c) 0 = 5 → WHO b (Xi S (276 + c) 2)) ∧
  (Xi S (276 + c) 0 = 6 → WHO b (Xi S (276 + c) 2) ∧ WHO b (Xi S (276 + c) 6) ∧ 0 ≤ Xi S (276 + c) 3 ∧ Xi S (276 + c) 3 ≤ 5) ∧
  (Xi S (276 + c) 0 = 7 → TXT S (Xi S (276 + c) 4) (Xi S (276 + c) 5) ∧ INS S b (Xi S (276 + c) 3) (Xi S (276 + c) 4) (Xi S (276 + c) 5)) ∧
  (Xi S (276 + c) 0 = 8 → WHO b (Xi S (276 + c) 2) ∧ WHO b (Xi S (276 + c) 6)) ∧
  (Xi S (276 + c) 0 = 10 → 0 ≤ Xi S (276 + c) 3 ∧ Xi S (276 + c) 3 < Xi S 5 8 ∧ (0 ≤ Xi S 19 (Xi S (276 + c) 3).toNat → WHO b (Xi S (276 + c) 2)) ∧ Xi S 19 (Xi S (276 + c) 3).toNat ≠ -2)
theorem INS.mono {S : sS} {b b2 : Prop} {w v n : Int} (h : b → b2) (hi : INS S b w v n) : INS S b2 w v n := ⟨hi.1, fun j h1 h2 h3 h4 => (hi.2 j h1 h2 h3 h4).mono h⟩
theorem CLok.mono {S : sS} {b b2 : Prop} {c : Nat} (h : b → b2) (hc : CLok S b c) : CLok S b2 c := by
  obtain ⟨k0, k1, k2, k3, k4, k5, k6, k7⟩ := hc
  exact ⟨fun e => ⟨(k0 e).1.mono h, (k0 e).2⟩, fun e => ⟨⟨(k1 e).1.1.mono h, (k1 e).1.2⟩, (k1 e).2⟩, fun e => ⟨(k2 e).1.mono h, (k2 e).2⟩, fun e => (k3 e).mono h, fun e => ⟨(k4 e).1.mono h, (k4 e).2.1.mono h, (k4 e).2.2⟩, fun e => ⟨(k5 e).1, (k5 e).2.mono h⟩, fun e => ⟨(k6 e).1.mono h, (k6 e).2.mono h⟩, fun e => ⟨(k7 e).1, (k7 e).2.1, fun a => ((k7 e).2.2.1 a).mono h, (k7 e).2.2.2⟩⟩
def TSok (S : sS) (b : Prop) (c : Nat) : Prop := CLok S b c ∧ Xi S (276 + c) 0 ≤ 6
theorem TSok.mono {S : sS} {b b2 : Prop} {c : Nat} (h : b → b2) (hc : TSok S b c) : TSok S b2 c := ⟨hc.1.mono h, hc.2⟩
/-- the tests of defined adjectives -/
def DEF (S : sS) : Prop := ∀ a : Nat, (a : Int) < Xi S 5 3 → Xi S 11 a = -1 → (0 ≤ Xi S 12 a ∧ Xi S 12 a + Xi S 13 a ≤ 600 ∧ Xi S 12 a + Xi S 13 a ≤ Xi S 246 5) ∧ ∀ i : Nat, (i : Int) < Xi S 13 a → TSok S True ((Xi S 12 a).toNat + i)
theorem DEF_at {S : sS} {b : Prop} {a i : Int} {z : Nat} (hD : DEF S) (h0 : 0 ≤ a) (ha : a < Xi S 5 3) (hc : Xi S 11 a.toNat = -1) (hi : 0 ≤ i) (hi2 : i < Xi S 13 a.toNat) (hz : (z : Int) = Xi S 12 a.toNat + i) (hb : b) : TSok S b z := by
  obtain ⟨⟨h1, _⟩, h2⟩ := hD a.toNat (by omega) hc
  have e : (Xi S 12 a.toNat).toNat + i.toNat = z := by omega
  have t := h2 i.toNat (by omega)
  rw [e] at t
  exact t.mono (fun _ => hb)
theorem DEF_b {S : sS} {a : Int} (hD : DEF S) (h0 : 0 ≤ a) (ha : a < Xi S 5 3) (hc : Xi S 11 a.toNat = -1) : 0 ≤ Xi S 12 a.toNat ∧ Xi S 12 a.toNat + Xi S 13 a.toNat ≤ 600 := ⟨(hD a.toNat (by omega) hc).1.1, (hD a.toNat (by omega) hc).1.2.1⟩
/-- a rule has a noun -/
def rN (S : sS) (i : Nat) : Prop := 0 ≤ Xi S (248 + i) 1 ∧ Xi S 19 (Xi S (248 + i) 1).toNat ≠ -1
def RUL1 (S : sS) (i : Nat) : Prop := (0 ≤ Xi S (248 + i) 7 ∧ Xi S (248 + i) 7 + Xi S (248 + i) 4 + Xi S (248 + i) 5 + Xi S (248 + i) 6 ≤ 600 ∧ Xi S (248 + i) 7 + Xi S (248 + i) 4 + Xi S (248 + i) 5 + Xi S (248 + i) 6 ≤ Xi S 246 5 ∧ Xi S (248 + i) 1 < Xi S 5 8) ∧ (Xi S (248 + i) 3 ≠ -1 → rN S i) ∧
  (∀ j : Nat, (j : Int) < Xi S (248 + i) 4 + Xi S (248 + i) 5 → TSok S (rN S i) ((Xi S (248 + i) 7).toNat + j)) ∧
  (∀ j : Nat, (j : Int) < Xi S (248 + i) 4 + Xi S (248 + i) 5 + Xi S (248 + i) 6 → CLok S (rN S i) ((Xi S (248 + i) 7).toNat + j))
def RUL (S : sS) : Prop := ∀ i : Nat, (i : Int) < Xi S 246 2 → RUL1 S i
/-- what was told of texts -/
def TX (S : sS) : Prop := ∀ r p : Nat, r < 40 → p < 12 → Xi S (66 + r) p ≠ 0 → TXT S (Xi S (107 + r) p) (Xi S (148 + r) p)
theorem TX_v {S : sS} {o v n : Int} {p : Nat} (hX : TX S) (hH : HI S) (hv : v = vof S o p) (hn : n = lof S o p) (h0 : 0 ≤ o) (h1 : o ≤ 23) (hp : p < 12) : TXT S v n := by
  rcases trw_row (p := p) h0 h1 hH with e | ⟨a, b, c⟩
  · refine Or.inl ?_
    rw [hn]; unfold lof; rw [if_pos e]; exact Int.le_refl 0
  · have t := hX (trw S o p).toNat p (by omega) hp c
    have e1 : v = Xi S (107 + (trw S o p).toNat) p := by rw [hv]; unfold vof; rw [if_neg (by omega)]
    have e2 : n = Xi S (148 + (trw S o p).toNat) p := by rw [hn]; unfold lof; rw [if_neg (by omega)]
    rw [e1, e2]; exact t
theorem TX_r {S : sS} {r p : Nat} (hX : TX S) (hr : r < 40) (hp : p < 12) (hk : Xi S (66 + r) p ≠ 0) : TXT S (Xi S (107 + r) p) (Xi S (148 + r) p) := hX r p hr hp hk
theorem TX_set {S U1 U2 U3 : sS} {r p : Int} {v n : Int} (hX : TX S) (e1 : U1 = uI S (66 + r.toNat) p.toNat (Int32.ofInt 1)) (e2 : U2 = uI U1 (107 + r.toNat) p.toNat (Int32.ofInt v)) (e3 : U3 = uI U2 (148 + r.toNat) p.toNat (Int32.ofInt n)) (hr0 : 0 ≤ r) (hr : r < 40) (hp0 : 0 ≤ p) (hv : rg v) (hn : rg n) (ht : TXT S v n) : TX U3 := by
  intro a b ha hb hk
  have t20 : U3.2.2 20 1 = S.2.2 20 1 := by rw [e3, e2, e1]; rfl
  by_cases h : a = r.toNat ∧ b = p.toNat
  · obtain ⟨rfl, rfl⟩ := h
    have k1 : Xi U3 (107 + r.toNat) p.toNat = v := by rw [e3, Xi_ne (by omega), e2, Xi_same hv]
    have k2 : Xi U3 (148 + r.toNat) p.toNat = n := by rw [e3, Xi_same hn]
    rw [k1, k2]
    exact TXT_eq t20 ht
  · have k0 : Xi U3 (66 + a) b = Xi S (66 + a) b := by rw [e3, Xi_ne (by omega), e2, Xi_ne (by omega), e1, Xi_ne (by omega)]
    have k1 : Xi U3 (107 + a) b = Xi S (107 + a) b := by rw [e3, Xi_ne (by omega), e2, Xi_ne (by omega), e1, Xi_ne (by omega)]
    have k2 : Xi U3 (148 + a) b = Xi S (148 + a) b := by rw [e3, Xi_ne (by omega), e2, Xi_ne (by omega), e1, Xi_ne (by omega)]
    rw [k0] at hk
    rw [k1, k2]
    exact TXT_eq t20 (hX a b ha hb hk)
/-! what stays over a frame -/
def inK (ks : List (Nat × Nat)) (k : Nat) : Bool := ks.any (fun a => Nat.ble a.1 k && Nat.blt k a.2)
def SMK (ks : List (Nat × Nat)) (S S1 : sS) : Prop := ∀ k j, inK ks k = true → S1.1 k j = S.1 k j ∧ S1.2.1 k j = S.2.1 k j ∧ S1.2.2 k j = S.2.2 k j
def kdis (l : List rec) (ks : List (Nat × Nat)) : Bool := ks.all (fun a => l.all (fun r => Nat.ble r.2.1 a.1 || Nat.ble a.2 r.1))
theorem FR.smk {l : List rec} {ks : List (Nat × Nat)} {S S1 : sS} (h : FR l S S1) (e : kdis l ks = true) : SMK ks S S1 := fun k j hk => by
  refine h k j ?_
  obtain ⟨a, ha, h1⟩ := List.any_eq_true.mp hk
  have h2 := List.all_eq_true.mp e a ha
  rw [Bool.and_eq_true] at h1
  have b1 := Nat.le_of_ble_eq_true h1.1
  have b2 := Nat.le_of_ble_eq_true h1.2
  cases hm : mdf l k j with
  | false => rfl
  | true =>
    obtain ⟨r, hr, h3⟩ := List.any_eq_true.mp hm
    have h4 := List.all_eq_true.mp h2 r hr
    unfold inR at h3
    simp only [Bool.and_eq_true] at h3
    have c1 := Nat.le_of_ble_eq_true h3.1
    have c2 := Nat.le_of_ble_eq_true h3.2.1
    rw [Bool.or_eq_true] at h4
    rcases h4 with h4 | h4 <;> (have c := Nat.le_of_ble_eq_true h4; omega)
theorem SMK.x {ks : List (Nat × Nat)} {S S1 : sS} (h : SMK ks S S1) (k : Nat) (e : inK ks k = true) (j : Nat) : Xi S1 k j = Xi S k j := by unfold Xi; rw [(h k j e).1]
theorem inK_i {ks : List (Nat × Nat)} {a b k : Nat} (h : (a, b) ∈ ks) (h1 : a ≤ k) (h2 : k < b) : inK ks k = true := List.any_eq_true.mpr ⟨_, h, by rw [Bool.and_eq_true]; exact ⟨Nat.ble_eq_true_of_le h1, Nat.ble_eq_true_of_le h2⟩⟩
/-- what is told stays, and more may come -/
def sG (S S1 : sS) : Prop := SMK [(902, 904)] S S1 ∧ S1.2.2 20 1 = S.2.2 20 1 ∧ (Xi S 246 8 ≤ Xi S1 246 8 ∧ Xi S1 246 8 ≤ 1666 ∧ ∀ j : Nat, (j : Int) < Xi S 246 8 → Xi S1 274 j = Xi S 274 j ∧ Xi S1 275 j = Xi S 275 j) ∧ Xi S 5 3 ≤ Xi S1 5 3 ∧ Xi S 5 8 ≤ Xi S1 5 8 ∧ (∀ j : Nat, (j : Int) < Xi S 5 8 → Xi S1 19 j = Xi S 19 j) ∧ Xi S 246 5 ≤ Xi S1 246 5 ∧ ∀ c : Nat, c < 600 → (c : Int) < Xi S 246 5 → ∀ j, Xi S1 (276 + c) j = Xi S (276 + c) j
theorem sG.rf {S : sS} (hH : HI S) : sG S S := ⟨fun _ _ _ => ⟨rfl, rfl, rfl⟩, rfl, ⟨Int.le_refl _, (hH.c 246 8).2, fun _ _ => ⟨rfl, rfl⟩⟩, Int.le_refl _, Int.le_refl _, fun _ _ => rfl, Int.le_refl _, fun _ _ _ _ => rfl⟩
theorem sG.tr {S S1 S2 : sS} (h : sG S S1) (g : sG S1 S2) : sG S S2 := by
  obtain ⟨a1, a2, ⟨a3, a4, a5⟩, a6, a7, a8, a9, a10⟩ := h
  obtain ⟨b1, b2, ⟨b3, b4, b5⟩, b6, b7, b8, b9, b10⟩ := g
  refine ⟨fun k j hk => ?_, b2.trans a2, ⟨Int.le_trans a3 b3, b4, fun j hj => ?_⟩, Int.le_trans a6 b6, Int.le_trans a7 b7, fun j hj => ?_, Int.le_trans a9 b9, fun c hc hk j => ?_⟩
  · obtain ⟨x, y, z⟩ := a1 k j hk
    obtain ⟨u, v, w⟩ := b1 k j hk
    exact ⟨u.trans x, v.trans y, w.trans z⟩
  · exact ⟨(b5 j (by omega)).1.trans (a5 j hj).1, (b5 j (by omega)).2.trans (a5 j hj).2⟩
  · exact (b8 j (by omega)).trans (a8 j hj)
  · exact (b10 c hc (by omega) j).trans (a10 c hc hk j)
def kG : List (Nat × Nat) := [(19, 20), (274, 876), (902, 904)]
theorem FR_sG {l : List rec} {S S1 : sS} (hH : HI S) (h : FR l S S1) (e : (kdis l kG && (!(mdf l 20 1) && (!(mdf l 246 8) && !(mdf l 246 5)))) = true) (h3 : Xi S 5 3 ≤ Xi S1 5 3) (h8 : Xi S 5 8 ≤ Xi S1 5 8) : sG S S1 := by
  simp only [Bool.and_eq_true, Bool.not_eq_true'] at e
  have k := h.smk e.1
  have x8 := h.x 246 8 e.2.2.1
  have x5 := h.x 246 5 e.2.2.2
  have r8 : 0 ≤ Xi S 246 8 ∧ Xi S 246 8 ≤ 1666 := hH.c _ _
  exact ⟨fun a j ha => k a j (by
    obtain ⟨q, hq, h1⟩ := List.any_eq_true.mp ha
    rw [List.mem_singleton] at hq
    subst hq
    rw [Bool.and_eq_true] at h1
    exact inK_i (a := 902) (b := 904) (by decide) (Nat.le_of_ble_eq_true h1.1) (Nat.le_of_ble_eq_true h1.2)), (h 20 1 e.2.1).2.2, ⟨by omega, by omega, fun j _ => ⟨k.x 274 rfl j, k.x 275 rfl j⟩⟩, h3, h8, fun j _ => k.x 19 rfl j, by omega, fun c hc _ j => k.x _ (inK_i (a := 274) (b := 876) (by decide) (by omega) (by omega)) j⟩
theorem FR_sC {l : List rec} {S S1 : sS} (hH : HI S) (h : FR l S S1) (e : (kdis l kG && (!(mdf l 20 1) && (!(mdf l 246 8) && !(mdf l 246 5)))) = true) (e5 : kdis l [(5, 6)] = true) : sG S S1 := FR_sG hH h e (by rw [(h.smk e5).x 5 rfl]; exact Int.le_refl _) (by rw [(h.smk e5).x 5 rfl]; exact Int.le_refl _)
theorem nbr_eq {S S1 : sS} {t : Nat} {v : Int} (h : ∀ j, Xi S1 t j = Xi S t j) : ∀ n, nbr S1 t v n = nbr S t v n := by
  intro n
  induction n with
  | zero => rfl
  | succ n ih => unfold nbr; rw [ih, h]
theorem tp_kC {t : Nat} (h : tp t) : inK [(902, 904)] t = true := by rcases h with rfl | rfl <;> rfl
theorem nbr_g {S S1 : sS} {v n : Int} (h : sG S S1) (ht : TXT S v n) : nbr S1 (txr S1) v n.toNat = nbr S (txr S) v n.toNat := by
  have et : txr S1 = txr S := by unfold txr; rw [h.2.1]
  rw [et]
  rcases ht with ht | ht
  · rw [show n.toNat = 0 by omega]; rfl
  · exact nbr_eq (fun j => h.1.x _ (tp_kC ht.2.2.2) j) _
theorem INS_sG {S S1 : sS} {b : Prop} {w v n : Int} (h : sG S S1) (ht : TXT S v n) (hi : INS S b w v n) : INS S1 b w v n := by
  obtain ⟨a3, a4, a5⟩ := h.2.2.1
  unfold INS
  rw [nbr_g h ht]
  refine ⟨hi.1.elim (fun e => Or.inl (by omega)) (fun e => Or.inr (by omega)), fun j h1 h2 h3 h4 => ?_⟩
  have hj : (j : Int) < Xi S 246 8 := hi.1.elim (fun e => by omega) (fun e => by omega)
  rw [(a5 j hj).1]
  rw [(a5 j hj).2] at h4
  exact hi.2 j h1 h2 hj h4
theorem CLok_sG {S S1 : sS} {b : Prop} {c : Nat} (hH : HI S) (h : sG S S1) (hc : c < 600) (hcc : (c : Int) < Xi S 246 5) (hk : CLok S b c) : CLok S1 b c := by
  have x : ∀ j, Xi S1 (276 + c) j = Xi S (276 + c) j := h.2.2.2.2.2.2.2 c hc hcc
  have g3 := h.2.2.2.1
  have g8 := h.2.2.2.2.1
  have g19 := h.2.2.2.2.2.1
  obtain ⟨k0, k1, k2, k3, k4, k5, k6, k7⟩ := hk
  unfold CLok
  simp only [x]
  refine ⟨fun e => ⟨(k0 e).1, (k0 e).2.1, by have := (k0 e).2.2; omega⟩, fun e => ⟨(k1 e).1, TXT_eq h.2.1 (k1 e).2⟩, k2, k3, k4, fun e => ⟨TXT_eq h.2.1 (k5 e).1, INS_sG h (k5 e).1 (k5 e).2⟩, k6, fun e => ?_⟩
  obtain ⟨q0, q1, q2, q3⟩ := k7 e
  rw [g19 _ (by omega)]
  exact ⟨q0, by omega, q2, q3⟩
theorem TSok_sG {S S1 : sS} {b : Prop} {c : Nat} (hH : HI S) (h : sG S S1) (hc : c < 600) (hcc : (c : Int) < Xi S 246 5) (hk : TSok S b c) : TSok S1 b c := ⟨CLok_sG hH h hc hcc hk.1, by rw [h.2.2.2.2.2.2.2 c hc hcc]; exact hk.2⟩
theorem DEF_sG {S S1 : sS} (hH : HI S) (h : sG S S1) (h1 : ∀ a : Nat, (a : Int) < Xi S 5 3 → Xi S1 11 a = Xi S 11 a ∧ Xi S1 12 a = Xi S 12 a ∧ Xi S1 13 a = Xi S 13 a) (h2 : ∀ a : Nat, Xi S 5 3 ≤ a → (a : Int) < Xi S1 5 3 → Xi S1 11 a ≠ -1) (hD : DEF S) : DEF S1 := by
  intro a ha hc
  by_cases e : (a : Int) < Xi S 5 3
  · obtain ⟨x, y, z⟩ := h1 a e
    rw [x] at hc
    rw [y, z]
    obtain ⟨⟨b1, b2, b3⟩, b4⟩ := hD a e hc
    have g5 := h.2.2.2.2.2.2.1
    exact ⟨⟨b1, b2, by omega⟩, fun i hi => TSok_sG hH h (by omega) (by omega) (b4 i hi)⟩
  · exact absurd hc (h2 a (by omega) ha)
theorem DEF_FR {l : List rec} {S S1 : sS} (hH : HI S) (h : FR l S S1) (e : (kdis l kG && (!(mdf l 20 1) && (!(mdf l 246 8) && !(mdf l 246 5)))) = true) (e2 : kdis l [(5, 6), (11, 14)] = true) (hD : DEF S) : DEF S1 := by
  have k := h.smk e2
  exact DEF_sG hH (FR_sG hH h e (by rw [k.x 5 rfl]; exact Int.le_refl _) (by rw [k.x 5 rfl]; exact Int.le_refl _)) (fun a _ => ⟨k.x 11 rfl a, k.x 12 rfl a, k.x 13 rfl a⟩) (fun a h1 h2 => by rw [k.x 5 rfl] at h2; omega) hD
theorem RUL1_sG {S S1 : sS} (hH : HI S) (h : sG S S1) {i : Nat} (hi : i < 24) (x : ∀ j, Xi S1 (248 + i) j = Xi S (248 + i) j) (hR : RUL1 S i) : RUL1 S1 i := by
  obtain ⟨⟨b1, b1b, b1c, b1d⟩, b2, b3, b4⟩ := hR
  have p4 : 0 ≤ Xi S (248 + i) 4 ∧ Xi S (248 + i) 4 ≤ 5 := ruc4 hH hi
  have p5 : 0 ≤ Xi S (248 + i) 5 ∧ Xi S (248 + i) 5 ≤ 6 := ruc5 hH hi
  have p6 : 0 ≤ Xi S (248 + i) 6 ∧ Xi S (248 + i) 6 ≤ 8 := ruc6 hH hi
  have g5 := h.2.2.2.2.2.2.1
  have g8 := h.2.2.2.2.1
  have n : rN S1 i = rN S i := by
    unfold rN
    rw [x]
    by_cases e : 0 ≤ Xi S (248 + i) 1
    · rw [h.2.2.2.2.2.1 _ (by omega)]
    · exact propext ⟨fun q => absurd q.1 e, fun q => absurd q.1 e⟩
  unfold RUL1
  rw [n]
  simp only [x]
  exact ⟨⟨b1, b1b, by omega, by omega⟩, b2, fun j hj => TSok_sG hH h (by omega) (by omega) (b3 j hj), fun j hj => CLok_sG hH h (by omega) (by omega) (b4 j hj)⟩
theorem RUL_sG {S S1 : sS} (hH : HI S) (h : sG S S1) (x : ∀ i : Nat, (i : Int) < Xi S 246 2 → ∀ j, Xi S1 (248 + i) j = Xi S (248 + i) j) (h3 : Xi S1 246 2 = Xi S 246 2) (hR : RUL S) : RUL S1 := by
  intro i hi
  rw [h3] at hi
  have h24 : 0 ≤ Xi S 246 2 ∧ Xi S 246 2 ≤ 24 := hH.c _ _
  exact RUL1_sG hH h (by omega) (x i hi) (hR i hi)
theorem RUL_FR {l : List rec} {S S1 : sS} (hH : HI S) (h : FR l S S1) (e : (kdis l kG && (!(mdf l 20 1) && (!(mdf l 246 8) && !(mdf l 246 5)))) = true) (e2 : (kdis l [(5, 6), (248, 272)] && !(mdf l 246 2)) = true) (hR : RUL S) : RUL S1 := by
  simp only [Bool.and_eq_true, Bool.not_eq_true'] at e2
  have k := h.smk e2.1
  have h24 : 0 ≤ Xi S 246 2 ∧ Xi S 246 2 ≤ 24 := hH.c _ _
  exact RUL_sG hH (FR_sG hH h e (by rw [k.x 5 rfl]; exact Int.le_refl _) (by rw [k.x 5 rfl]; exact Int.le_refl _)) (fun i hi j => k.x _ (inK_i (a := 248) (b := 272) (by decide) (by omega) (by omega)) j) (h.x 246 2 e2.2) hR
def kX : List (Nat × Nat) := [(66, 106), (107, 147), (148, 188)]
theorem TX_FR {l : List rec} {S S1 : sS} (h : FR l S S1) (e : (kdis l kX && !(mdf l 20 1)) = true) (hX : TX S) : TX S1 := by
  simp only [Bool.and_eq_true, Bool.not_eq_true'] at e
  have k := h.smk e.1
  have t20 := (h 20 1 e.2).2.2
  intro r p hr hp hk
  rw [k.x (66 + r) (inK_i (a := 66) (b := 106) (by decide) (by omega) (by omega))] at hk
  rw [k.x (107 + r) (inK_i (a := 107) (b := 147) (by decide) (by omega) (by omega)), k.x (148 + r) (inK_i (a := 148) (b := 188) (by decide) (by omega) (by omega))]
  exact TXT_eq t20 (hX r p hr hp hk)
theorem RUL_ph {S : sS} {b : Prop} {i z : Nat} {k : Int} (hR : RUL S) (hi : (i : Int) < Xi S 246 2) (hb : rN S i → b) (h0 : 0 ≤ k) (hk : k < Xi S (248 + i) 4 + Xi S (248 + i) 5 + Xi S (248 + i) 6) (hz : (z : Int) = Xi S (248 + i) 7 + k) : CLok S b z := by
  obtain ⟨b1, b2, b3, b4⟩ := hR i hi
  have t := b4 k.toNat (by omega)
  rw [show (Xi S (248 + i) 7).toNat + k.toNat = z by omega] at t
  exact t.mono hb
theorem RUL_ts {S : sS} {b : Prop} {i z : Nat} {k : Int} (hR : RUL S) (hi : (i : Int) < Xi S 246 2) (hb : rN S i → b) (h0 : 0 ≤ k) (hk : k < Xi S (248 + i) 4 + Xi S (248 + i) 5) (hz : (z : Int) = Xi S (248 + i) 7 + k) : TSok S b z := by
  obtain ⟨b1, b2, b3, b4⟩ := hR i hi
  have t := b3 k.toNat (by omega)
  rw [show (Xi S (248 + i) 7).toNat + k.toNat = z by omega] at t
  exact t.mono hb
theorem RUL_b {S : sS} {i : Nat} (hR : RUL S) (hi : (i : Int) < Xi S 246 2) : 0 ≤ Xi S (248 + i) 7 ∧ Xi S (248 + i) 7 + Xi S (248 + i) 4 + Xi S (248 + i) 5 + Xi S (248 + i) 6 ≤ 600 := ⟨(hR i hi).1.1, (hR i hi).1.2.1⟩
theorem RUL_c {S : sS} {i : Nat} (hR : RUL S) (hi : (i : Int) < Xi S 246 2) : Xi S (248 + i) 7 + Xi S (248 + i) 4 + Xi S (248 + i) 5 + Xi S (248 + i) 6 ≤ Xi S 246 5 := (hR i hi).1.2.2.1
theorem RUL_k {S : sS} {b : Prop} {i : Nat} (hR : RUL S) (hi : (i : Int) < Xi S 246 2) (hb : rN S i → b) (hk : Xi S (248 + i) 3 ≠ -1) : b := hb ((hR i hi).2.1 hk)
theorem rN_n {S : sS} {i : Nat} {action noun : Int} (hn : 0 ≤ action → Xi S 19 action.toNat ≠ -1 → 0 ≤ noun) (e : Xi S (248 + i) 1 = action) : rN S i → 0 ≤ noun := fun h => by
  unfold rN at h
  rw [e] at h
  exact hn h.1 h.2
theorem FR_ru {l : List rec} {S T : sS} {i j : Nat} (F : FR l S T) (e : kdis l [(248, 272)] = true) (hi : i < 24) : Xi T (248 + i) j = Xi S (248 + i) j := (F.smk e).x _ (inK_i (a := 248) (b := 272) (by decide) (by omega) (by omega)) j
theorem FR_cl {l : List rec} {S T : sS} {i j : Nat} (F : FR l S T) (e : kdis l [(276, 876)] = true) (hi : i < 600) : Xi T (276 + i) j = Xi S (276 + i) j := (F.smk e).x _ (inK_i (a := 276) (b := 876) (by decide) (by omega) (by omega)) j
def ORD (S : sS) : Prop := ∀ i : Nat, (i : Int) < Xi S 246 2 → Xi S 272 i < Xi S 246 2
def AK (S : sS) : Prop := 5 ≤ Xi S 5 8 ∧ Xi S 19 0 = -1 ∧ Xi S 19 1 = 0 ∧ Xi S 19 2 = 0 ∧ Xi S 19 3 = 0 ∧ Xi S 19 4 = -2
theorem nbr_y {S : sS} {t : Nat} {v i : Int} (h0 : 0 ≤ i) (h : Xi S t (v + i).toNat = 91) : nbr S t v (i + 1).toNat = nbr S t v i.toNat + 1 := by
  rw [show (i + 1).toNat = i.toNat + 1 by omega]
  show nbr S t v i.toNat + (if Xi S t (v + (i.toNat : Int)).toNat = 91 then 1 else 0) = _
  rw [show (i.toNat : Int) = i by omega, if_pos h]
theorem nbr_n {S : sS} {t : Nat} {v i : Int} (h0 : 0 ≤ i) (h : Xi S t (v + i).toNat ≠ 91) : nbr S t v (i + 1).toNat = nbr S t v i.toNat := by
  rw [show (i + 1).toNat = i.toNat + 1 by omega]
  show nbr S t v i.toNat + (if Xi S t (v + (i.toNat : Int)).toNat = 91 then 1 else 0) = _
  rw [show (i.toNat : Int) = i by omega, if_neg h]; omega
theorem nbr_le {S : sS} {t : Nat} {v : Int} : ∀ (m n : Nat), n ≤ m → nbr S t v n ≤ nbr S t v m ∧ 0 ≤ nbr S t v n ∧ nbr S t v n ≤ n := by
  have a : ∀ n : Nat, 0 ≤ nbr S t v n ∧ nbr S t v n ≤ n := by
    intro n
    induction n with
    | zero => exact ⟨Int.le_refl 0, Int.le_refl 0⟩
    | succ n ih =>
      unfold nbr
      split <;> omega
  intro m
  induction m with
  | zero => intro n h; rw [show n = 0 by omega]; exact ⟨Int.le_refl _, a 0⟩
  | succ m ih =>
    intro n h
    refine ⟨?_, a n⟩
    by_cases e : n = m + 1
    · rw [e]; exact Int.le_refl _
    · have i1 := (ih n (by omega)).1
      have i2 : nbr S t v m ≤ nbr S t v (m + 1) := by
        show _ ≤ nbr S t v m + _
        split <;> omega
      omega
theorem ins_ho {S T : sS} {l : List rec} {noun w v n nx z1 z2 zo i : Int} (F : FR l S T) (e1 : mdf l 246 8 = false) (e : kdis l [(274, 276)] = true) (hI : INS S (0 ≤ noun) w v n) (hnx : nx = w + nbr S (txr S) v i.toNat) (h0 : 0 ≤ i) (hi : i < n) (hb : Xi S (txr S) (v + i).toNat = 91)
    (h1 : 0 ≤ nx → nx < Xi T 246 8 → z1 = Xi T 274 nx.toNat) (h2 : 0 ≤ nx → nx < Xi T 246 8 → z2 = Xi T 275 nx.toNat) (h2n : nx < 0 ∨ Xi T 246 8 ≤ nx → z2 = -1) (ho : (z1 = -2 → zo = noun) ∧ (z1 ≠ -2 → zo = z1)) : z2 ≠ -1 → 0 ≤ zo := by
  intro hz
  have k := F.smk e
  rw [F.x 246 8 e1] at h1 h2 h2n
  rw [k.x 274 rfl] at h1
  rw [k.x 275 rfl] at h2
  have a := nbr_y h0 hb
  have b := (nbr_le (S := S) (t := txr S) (v := v) n.toNat (i + 1).toNat (by omega)).1
  have b0 := (nbr_le (S := S) (t := txr S) (v := v) i.toNat i.toNat (by omega)).2.1
  have hw := hI.2 nx.toNat (by omega) (by omega) (by omega) (by rw [← h2 (by omega) (by omega)]; exact hz)
  rw [← h1 (by omega) (by omega)] at hw
  unfold WHO at hw
  omega
theorem txb {S T : sS} {l : List rec} {j : Nat} (F : FR l S T) (e2 : mdf l 20 1 = false) (e : kdis l [(902, 904)] = true) (h : tp (txr T)) : Xi T (txr T) j = Xi S (txr S) j := by
  have et : txr T = txr S := by unfold txr; rw [(F 20 1 e2).2.2]
  rw [← et]
  exact (F.smk e).x _ (by rcases h with h | h <;> rw [h] <;> rfl) j
theorem ord_end {S : sS} {v : Int} (h : ∀ i : Nat, (i : Int) < v → Xi S 272 i < v) (hv : v = Xi S 246 2) : ORD S := by rw [hv] at h; exact h
theorem ord_in {S : sS} {v : Int} (h : ∀ i : Nat, (i : Int) < v → Xi S 272 i < v) : ∀ i : Nat, (i : Int) ≤ v → (i : Int) ≠ v → Xi S 272 i < v := fun i h1 h2 => h i (by omega)
theorem ord_mv {S U : sS} {v w x : Int} (e : U = uI S 272 w.toNat (Int32.ofInt (Xi S 272 x.toNat))) (h : ∀ i : Nat, (i : Int) ≤ v → (i : Int) ≠ w → Xi S 272 i < v) (hx : x = w - 1) (hw : 0 < w ∧ w ≤ v) : ∀ i : Nat, (i : Int) ≤ v → (i : Int) ≠ w - 1 → Xi U 272 i < v := fun i h1 h2 => by
  rw [e]
  by_cases a : i = w.toNat
  · rw [a, Xi_same Xi_rg]; exact h x.toNat (by omega) (by omega)
  · rw [Xi_ne (by omega)]; exact h i h1 (by omega)
theorem ord_put {S U : sS} {v w : Int} (e : U = uI S 272 w.toNat (Int32.ofInt v)) (h : ∀ i : Nat, (i : Int) ≤ v → (i : Int) ≠ w → Xi S 272 i < v) (hw : 0 ≤ w) (hv : 0 ≤ v ∧ v ≤ 24) : ∀ i : Nat, (i : Int) < v + 1 → Xi U 272 i < v + 1 := fun i h1 => by
  rw [e]
  by_cases a : i = w.toNat
  · rw [a, Xi_same ⟨by omega, by omega⟩]; omega
  · rw [Xi_ne (by omega)]; have := h i (by omega) (by omega); omega
theorem ORD_FR {l : List rec} {S S1 : sS} (h : FR l S S1) (e : (kdis l [(272, 273)] && !(mdf l 246 2)) = true) (hO : ORD S) : ORD S1 := by
  simp only [Bool.and_eq_true, Bool.not_eq_true'] at e
  intro i hi
  rw [h.x 246 2 e.2] at hi ⊢
  rw [(h.smk e.1).x 272 rfl]
  exact hO i hi
theorem AK_FR {l : List rec} {S S1 : sS} (h : FR l S S1) (e : kdis l [(19, 20), (5, 6)] = true) (hA : AK S) : AK S1 := by
  unfold AK
  have k := h.smk e
  simp only [k.x 19 rfl, k.x 5 rfl]
  exact hA
theorem ak_all {S : sS} {a n : Int} (hA : AK S) (hn : Xi S 19 a.toNat ≠ -1 → 0 ≤ n) (hg : Xi S 19 a.toNat = -2 → n ≤ 5) : (a = 1 ∨ a = 2 ∨ a = 3 ∨ a = 4 → 0 ≤ n) ∧ (a = 4 → n ≤ 5) := by
  obtain ⟨_, _, h1, h2, h3, h4⟩ := hA
  refine ⟨fun h => hn ?_, fun h => hg ?_⟩
  · rcases h with rfl | rfl | rfl | rfl
    · exact fun e => by have := e.symm.trans h1; omega
    · exact fun e => by have := e.symm.trans h2; omega
    · exact fun e => by have := e.symm.trans h3; omega
    · exact fun e => by have := e.symm.trans h4; omega
  · rw [h]; exact h4
theorem txd {S : sS} {o v n : Int} (hX : TX S) (hH : HI S) (hv : v = vof S o (0 : Int).toNat) (hn : n = lof S o (0 : Int).toNat) (h0 : 0 ≤ o) (h1 : o ≤ 23) : TXT S v n := TX_v (p := 0) hX hH hv hn h0 h1 (by omega)
/-! SAFETY: turns -/
theorem TX_w {S U : sS} {k j : Nat} {v : Int32} (e : U = uI S k j v) (hk : inK kX k = false) (hX : TX S) : TX U := by
  have ne : ∀ a b, inK kX a = true → Xi U a b = Xi S a b := fun a b h => by
    rw [e]; exact Xi_ne (fun q => by rw [q.1, hk] at h; cases h)
  have t20 : U.2.2 20 1 = S.2.2 20 1 := by rw [e]; rfl
  intro r p hr hp hq
  rw [ne _ _ (inK_i (a := 66) (b := 106) (by decide) (by omega) (by omega))] at hq
  rw [ne _ _ (inK_i (a := 107) (b := 147) (by decide) (by omega) (by omega)), ne _ _ (inK_i (a := 148) (b := 188) (by decide) (by omega) (by omega))]
  exact TXT_eq t20 (hX r p hr hp hq)
/-! SAFETY: commands; writes as frames -/
theorem FR_e {S U : sS} {k j : Nat} {v : Int32} (e : U = uI S k j v) : FR [(k, k + 1, j, j + 1)] S U := by
  rw [e]
  exact FR.wI FR.rf (mdf_i (List.mem_cons_self) (inR_i (Nat.le_refl k) (by omega) (Nat.le_refl j) (by omega)))
theorem FR_J {S U : sS} {k j : Nat} {v : Int64} (e : U = uJ S k j v) : FR [(k, k + 1, j, j + 1)] S U := by
  rw [e]
  exact FR.wJ FR.rf (mdf_i (List.mem_cons_self) (inR_i (Nat.le_refl k) (by omega) (Nat.le_refl j) (by omega)))
def CMD (S : sS) : Prop := ∀ i : Nat, (i : Int) < Xi S 882 3 → Xi S 883 i < Xi S 5 8 ∧ (Xi S 885 i = -1 → Xi S 19 (Xi S 883 i).toNat = -1) ∧ (Xi S 19 (Xi S 883 i).toNat = -2 → Xi S 886 i = -2)
theorem CMD_FR {l : List rec} {S S1 : sS} (h : FR l S S1) (e : (kdis l [(5, 6), (19, 20), (883, 884), (885, 887)] && !(mdf l 882 3)) = true) (hC : CMD S) : CMD S1 := by
  simp only [Bool.and_eq_true, Bool.not_eq_true'] at e
  have k := h.smk e.1
  intro i hi
  rw [h.x 882 3 e.2] at hi
  rw [k.x 883 rfl, k.x 885 rfl, k.x 886 rfl, k.x 19 rfl, k.x 5 rfl]
  exact hC i hi
section SAFE
variable {lay : Nat → Nat × Nat} {d pc : Nat} {q : mT} {L : List (Nat × Value)} {st : List Value} {S : sS} {Q : pst}
def iushrF (x y : Int) : Int := ((Int32.ofInt x).toUInt32 >>> ((Int32.ofInt y).toUInt32 &&& Int32.toUInt32 31)).toInt32.toInt
theorem iushrF_rg {x y : Int} : -2147483648 ≤ iushrF x y ∧ iushrF x y ≤ 2147483647 := ⟨rg_toI.1, Int.le_of_lt_add_one rg_toI.2⟩
theorem l_iushrF {x y : Int} (hc : lk q.2.2.2.2.2 pc = some .iushr) (h : Rl lay d q (pc + 1) L (iv (iushrF x y) :: st) S Q) : Rl lay d q pc L (iv y :: iv x :: st) S Q :=
  Rl_s hc rfl (fun lv ha => ⟨lv, by
    show some (pc + 1, lv, Value.int (((Int32.ofInt x).toUInt32 >>> ((Int32.ofInt y).toUInt32 &&& Int32.toUInt32 31)).toInt32) :: st, S) = _
    unfold iv iushrF; rw [ofI_toI], ha⟩) h
end SAFE


