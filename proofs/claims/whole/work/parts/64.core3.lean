/-! SAFETY: more instructions; rows, clauses, the tape as cells: printed by wip/gen/core3.py -/
theorem Xi_rgI {S : sS} {k j : Nat} : -2147483648 ≤ Xi S k j ∧ Xi S k j ≤ 2147483647 := ⟨Xi_rg.1, Int.le_of_lt_add_one Xi_rg.2⟩
theorem retI_z {v : Int} (h : 0 ≤ v ∧ v ≤ 1) : retI (some .boolean) (Int32.ofInt v) = true := by
  have e : v = 0 ∨ v = 1 := by omega
  rcases e with rfl | rfl <;> rfl
theorem lay_tp {t : Nat} (h : tp t) : lay0 t = (3, 5000) := by rcases h with rfl | rfl <;> rfl
theorem tp_sv {t : Nat} (h : tp t) : Nat.ble SV t = false := by rcases h with rfl | rfl <;> rfl
theorem lh_tp {t j : Nat} (h : tp t) : lh t j = (-128, 127) := by rcases h with rfl | rfl <;> rfl
theorem tpc {S : sS} {t j : Nat} (h : HI S) (ht : tp t) : -128 ≤ Xi S t j ∧ Xi S t j ≤ 127 := by have e := h.c t j; rw [lh_tp ht] at e; exact e
theorem nar_z {v : Int} (h : 0 ≤ v ∧ v ≤ 1) : vp_nar .boolean (Int32.ofInt v) = Int32.ofInt v := by
  have e : v = 0 ∨ v = 1 := by omega
  rcases e with rfl | rfl <;> rfl
theorem nar_bz {v : Int} (h : -128 ≤ v ∧ v ≤ 127) : vp_nar .byte (Int32.ofInt v) = Int32.ofInt v := by
  rw [vp_nar_byte]
  apply Int32.toInt_inj.mp
  rw [Int8.toInt_toInt32, Int32.toInt8_ofInt, Int8.toInt_ofInt_of_le h.1 (by omega), toI ⟨by omega, by omega⟩]
theorem layCl {c : Nat} (h : c < 600) : layIs lay0 (276 + c) 0 4 = true := by
  have a : ∀ c, c < 600 → layIs lay0 (276 + c) 0 4 = true := by decide +kernel
  exact a c h
theorem cOk_cl {c : Nat} {x : Int} {st : List Value} (h : c < 600) (hs : Nat.ble ((st.map (fun v => v.category)).sum) 8 = true) : cOk lay0 4 1 (iv x :: .ref (276 + c) :: st) = true := by
  unfold cOk
  show (Nat.ble 2 (st.length + 2) && Nat.ble ((st.map (fun v => v.category)).sum) 8 && layIs lay0 (276 + c) 0 4) = true
  rw [hs, layCl h, Nat.ble_eq_true_of_le (by omega)]
  rfl
theorem layClW {c j : Nat} (h : c < 600) (hj : gF 4 j = false) : (Nat.blt 4 90 && (layIs lay0 (276 + c) 0 4 && !(gF 4 j))) = true := by rw [layCl h, hj]; rfl
theorem RW_24 {S : sS} {i : Nat} (h : HI S) (hi : i < 40) : S.2.2 24 i = some (25 + i) := h.rw 24 25 40 i (by decide) hi
theorem lay_25 {i : Nat} (h : i < 40) : lay0 (25 + i) = (1, 24) := by
  have a : ∀ i, i < 40 → lay0 (25 + i) = (1, 24) := by decide +kernel
  exact a i h
theorem lh_row25 {i j : Nat} (h : i < 40) : lh (25 + i) j = fullR := by
  have a : ∀ i, i < 40 → (lkp lhL (25 + i)).isNone = true := by decide +kernel
  have e := a i h
  have b1 : lhA (25 + i) j = fullR := by unfold lhA; rw [show Nat.blt (25 + i) 904 = true from Nat.ble_eq_true_of_le (by omega)]; show lhC lhL _ j = _; unfold lhC; rw [Option.isNone_iff_eq_none.mp e]
  unfold lh
  rw [b1]
  simp only [Bool.cond_eq_ite, Nat.blt_eq]
  repeat (first | rfl | (split <;> try omega))
theorem RW_65 {S : sS} {i : Nat} (h : HI S) (hi : i < 40) : S.2.2 65 i = some (66 + i) := h.rw 65 66 40 i (by decide) hi
theorem lay_66 {i : Nat} (h : i < 40) : lay0 (66 + i) = (1, 12) := by
  have a : ∀ i, i < 40 → lay0 (66 + i) = (1, 12) := by decide +kernel
  exact a i h
theorem lh_row66 {i j : Nat} (h : i < 40) : lh (66 + i) j = fullR := by
  have a : ∀ i, i < 40 → (lkp lhL (66 + i)).isNone = true := by decide +kernel
  have e := a i h
  have b1 : lhA (66 + i) j = fullR := by unfold lhA; rw [show Nat.blt (66 + i) 904 = true from Nat.ble_eq_true_of_le (by omega)]; show lhC lhL _ j = _; unfold lhC; rw [Option.isNone_iff_eq_none.mp e]
  unfold lh
  rw [b1]
  simp only [Bool.cond_eq_ite, Nat.blt_eq]
  repeat (first | rfl | (split <;> try omega))
theorem RW_106 {S : sS} {i : Nat} (h : HI S) (hi : i < 40) : S.2.2 106 i = some (107 + i) := h.rw 106 107 40 i (by decide) hi
theorem lay_107 {i : Nat} (h : i < 40) : lay0 (107 + i) = (1, 12) := by
  have a : ∀ i, i < 40 → lay0 (107 + i) = (1, 12) := by decide +kernel
  exact a i h
theorem lh_row107 {i j : Nat} (h : i < 40) : lh (107 + i) j = fullR := by
  have a : ∀ i, i < 40 → (lkp lhL (107 + i)).isNone = true := by decide +kernel
  have e := a i h
  have b1 : lhA (107 + i) j = fullR := by unfold lhA; rw [show Nat.blt (107 + i) 904 = true from Nat.ble_eq_true_of_le (by omega)]; show lhC lhL _ j = _; unfold lhC; rw [Option.isNone_iff_eq_none.mp e]
  unfold lh
  rw [b1]
  simp only [Bool.cond_eq_ite, Nat.blt_eq]
  repeat (first | rfl | (split <;> try omega))
theorem RW_147 {S : sS} {i : Nat} (h : HI S) (hi : i < 40) : S.2.2 147 i = some (148 + i) := h.rw 147 148 40 i (by decide) hi
theorem lay_148 {i : Nat} (h : i < 40) : lay0 (148 + i) = (1, 12) := by
  have a : ∀ i, i < 40 → lay0 (148 + i) = (1, 12) := by decide +kernel
  exact a i h
theorem lh_row148 {i j : Nat} (h : i < 40) : lh (148 + i) j = fullR := by
  have a : ∀ i, i < 40 → (lkp lhL (148 + i)).isNone = true := by decide +kernel
  have e := a i h
  have b1 : lhA (148 + i) j = fullR := by unfold lhA; rw [show Nat.blt (148 + i) 904 = true from Nat.ble_eq_true_of_le (by omega)]; show lhC lhL _ j = _; unfold lhC; rw [Option.isNone_iff_eq_none.mp e]
  unfold lh
  rw [b1]
  simp only [Bool.cond_eq_ite, Nat.blt_eq]
  repeat (first | rfl | (split <;> try omega))
theorem RW_188 {S : sS} {i : Nat} (h : HI S) (hi : i < 6) : S.2.2 188 i = some (189 + i) := h.rw 188 189 6 i (by decide) hi
theorem lay_189 {i : Nat} (h : i < 6) : lay0 (189 + i) = (1, 24) := by
  have a : ∀ i, i < 6 → lay0 (189 + i) = (1, 24) := by decide +kernel
  exact a i h
theorem lh_row189 {i j : Nat} (h : i < 6) : lh (189 + i) j = fullR := by
  have a : ∀ i, i < 6 → (lkp lhL (189 + i)).isNone = true := by decide +kernel
  have e := a i h
  have b1 : lhA (189 + i) j = fullR := by unfold lhA; rw [show Nat.blt (189 + i) 904 = true from Nat.ble_eq_true_of_le (by omega)]; show lhC lhL _ j = _; unfold lhC; rw [Option.isNone_iff_eq_none.mp e]
  unfold lh
  rw [b1]
  simp only [Bool.cond_eq_ite, Nat.blt_eq]
  repeat (first | rfl | (split <;> try omega))
theorem RW_195 {S : sS} {i : Nat} (h : HI S) (hi : i < 24) : S.2.2 195 i = some (196 + i) := h.rw 195 196 24 i (by decide) hi
theorem lay_196 {i : Nat} (h : i < 24) : lay0 (196 + i) = (1, 6) := by
  have a : ∀ i, i < 24 → lay0 (196 + i) = (1, 6) := by decide +kernel
  exact a i h
theorem RW_220 {S : sS} {i : Nat} (h : HI S) (hi : i < 24) : S.2.2 220 i = some (221 + i) := h.rw 220 221 24 i (by decide) hi
theorem lay_221 {i : Nat} (h : i < 24) : lay0 (221 + i) = (1, 6) := by
  have a : ∀ i, i < 24 → lay0 (221 + i) = (1, 6) := by decide +kernel
  exact a i h
theorem lh_row221 {i j : Nat} (h : i < 24) : lh (221 + i) j = fullR := by
  have a : ∀ i, i < 24 → (lkp lhL (221 + i)).isNone = true := by decide +kernel
  have e := a i h
  have b1 : lhA (221 + i) j = fullR := by unfold lhA; rw [show Nat.blt (221 + i) 904 = true from Nat.ble_eq_true_of_le (by omega)]; show lhC lhL _ j = _; unfold lhC; rw [Option.isNone_iff_eq_none.mp e]
  unfold lh
  rw [b1]
  simp only [Bool.cond_eq_ite, Nat.blt_eq]
  repeat (first | rfl | (split <;> try omega))
theorem RW_247 {S : sS} {i : Nat} (h : HI S) (hi : i < 24) : S.2.2 247 i = some (248 + i) := h.rw 247 248 24 i (by decide) hi
theorem lay_248 {i : Nat} (h : i < 24) : lay0 (248 + i) = (1, 8) := by
  have a : ∀ i, i < 24 → lay0 (248 + i) = (1, 8) := by decide +kernel
  exact a i h
theorem RW_273 {S : sS} {i : Nat} (h : HI S) (hi : i < 600) : S.2.2 273 i = some (276 + i) := h.rw 273 276 600 i (by decide) hi
theorem lh_wy {i j : Nat} (h : i < 24) : lh (196 + i) j = (-1, 23) := by
  unfold lh
  rw [show Nat.blt (196 + i) 196 = false from by rw [Nat.blt]; exact Bool.eq_false_iff.mpr (fun q => by have := Nat.le_of_ble_eq_true q; omega), show Nat.blt (196 + i) 220 = true from Nat.ble_eq_true_of_le (by omega)]
  rfl
theorem wyc {S : sS} {i j : Nat} (h : HI S) (hi : i < 24) : -1 ≤ Xi S (196 + i) j ∧ Xi S (196 + i) j ≤ 23 := by have e := h.c (196 + i) j; rw [lh_wy hi] at e; exact e
theorem blt_f {a b : Nat} (h : b ≤ a) : Nat.blt a b = false := Bool.eq_false_iff.mpr (fun q => by have := Nat.le_of_ble_eq_true q; omega)
theorem blt_t {a b : Nat} (h : a < b) : Nat.blt a b = true := Nat.ble_eq_true_of_le h
theorem lh_ru {i j : Nat} (h : i < 24) : lh (248 + i) j = ruR.getD j fullR := by
  unfold lh
  rw [blt_f (show 196 ≤ 248 + i by omega), blt_f (show 220 ≤ 248 + i by omega), blt_f (show 248 ≤ 248 + i by omega), blt_t (show 248 + i < 272 by omega)]
  rfl
theorem lh_cl {i j : Nat} (h : i < 600) : lh (276 + i) j = clR.getD j fullR := by
  unfold lh
  rw [blt_f (show 196 ≤ 276 + i by omega), blt_f (show 220 ≤ 276 + i by omega), blt_f (show 248 ≤ 276 + i by omega), blt_f (show 272 ≤ 276 + i by omega), blt_f (show 276 ≤ 276 + i by omega), blt_t (show 276 + i < 876 by omega)]
  rfl
theorem lh_cl0 {i : Nat} (h : i < 600) : lh (276 + i) 0 = (0, 11) := lh_cl h
theorem clc0 {S : sS} {i : Nat} (h : HI S) (hi : i < 600) : 0 ≤ Xi S (276 + i) 0 ∧ Xi S (276 + i) 0 ≤ 11 := by have e := h.c (276 + i) 0; rw [lh_cl hi] at e; exact e
theorem lh_cl1 {i : Nat} (h : i < 600) : lh (276 + i) 1 = (0, 1) := lh_cl h
theorem clc1 {S : sS} {i : Nat} (h : HI S) (hi : i < 600) : 0 ≤ Xi S (276 + i) 1 ∧ Xi S (276 + i) 1 ≤ 1 := by have e := h.c (276 + i) 1; rw [lh_cl hi] at e; exact e
theorem lh_cl2 {i : Nat} (h : i < 600) : lh (276 + i) 2 = (-2, 23) := lh_cl h
theorem clc2 {S : sS} {i : Nat} (h : HI S) (hi : i < 600) : -2 ≤ Xi S (276 + i) 2 ∧ Xi S (276 + i) 2 ≤ 23 := by have e := h.c (276 + i) 2; rw [lh_cl hi] at e; exact e
theorem lh_cl3 {i : Nat} (h : i < 600) : lh (276 + i) 3 = (-1, 1666) := lh_cl h
theorem clc3 {S : sS} {i : Nat} (h : HI S) (hi : i < 600) : -1 ≤ Xi S (276 + i) 3 ∧ Xi S (276 + i) 3 ≤ 1666 := by have e := h.c (276 + i) 3; rw [lh_cl hi] at e; exact e
theorem lh_cl4 {i : Nat} (h : i < 600) : lh (276 + i) 4 = (-2147483648, 2147483647) := lh_cl h
theorem lh_cl5 {i : Nat} (h : i < 600) : lh (276 + i) 5 = (-2147483648, 2147483647) := lh_cl h
theorem lh_cl6 {i : Nat} (h : i < 600) : lh (276 + i) 6 = (-2, 23) := lh_cl h
theorem clc6 {S : sS} {i : Nat} (h : HI S) (hi : i < 600) : -2 ≤ Xi S (276 + i) 6 ∧ Xi S (276 + i) 6 ≤ 23 := by have e := h.c (276 + i) 6; rw [lh_cl hi] at e; exact e
theorem lh_ru0 {i : Nat} (h : i < 24) : lh (248 + i) (0 : Int).toNat = (0, 3) := lh_ru h
theorem ruc0 {S : sS} {i : Nat} (h : HI S) (hi : i < 24) : 0 ≤ Xi S (248 + i) (0 : Int).toNat ∧ Xi S (248 + i) (0 : Int).toNat ≤ 3 := by have e := h.c (248 + i) 0; rw [lh_ru hi] at e; exact e
theorem lh_ru1 {i : Nat} (h : i < 24) : lh (248 + i) (1 : Int).toNat = (-1, 11) := lh_ru h
theorem ruc1 {S : sS} {i : Nat} (h : HI S) (hi : i < 24) : -1 ≤ Xi S (248 + i) (1 : Int).toNat ∧ Xi S (248 + i) (1 : Int).toNat ≤ 11 := by have e := h.c (248 + i) 1; rw [lh_ru hi] at e; exact e
theorem lh_ru2 {i : Nat} (h : i < 24) : lh (248 + i) (2 : Int).toNat = (-1, 23) := lh_ru h
theorem ruc2 {S : sS} {i : Nat} (h : HI S) (hi : i < 24) : -1 ≤ Xi S (248 + i) (2 : Int).toNat ∧ Xi S (248 + i) (2 : Int).toNat ≤ 23 := by have e := h.c (248 + i) 2; rw [lh_ru hi] at e; exact e
theorem lh_ru3 {i : Nat} (h : i < 24) : lh (248 + i) (3 : Int).toNat = (-1, 15) := lh_ru h
theorem ruc3 {S : sS} {i : Nat} (h : HI S) (hi : i < 24) : -1 ≤ Xi S (248 + i) (3 : Int).toNat ∧ Xi S (248 + i) (3 : Int).toNat ≤ 15 := by have e := h.c (248 + i) 3; rw [lh_ru hi] at e; exact e
theorem lh_ru4 {i : Nat} (h : i < 24) : lh (248 + i) (4 : Int).toNat = (0, 5) := lh_ru h
theorem ruc4 {S : sS} {i : Nat} (h : HI S) (hi : i < 24) : 0 ≤ Xi S (248 + i) (4 : Int).toNat ∧ Xi S (248 + i) (4 : Int).toNat ≤ 5 := by have e := h.c (248 + i) 4; rw [lh_ru hi] at e; exact e
theorem lh_ru5 {i : Nat} (h : i < 24) : lh (248 + i) (5 : Int).toNat = (0, 6) := lh_ru h
theorem ruc5 {S : sS} {i : Nat} (h : HI S) (hi : i < 24) : 0 ≤ Xi S (248 + i) (5 : Int).toNat ∧ Xi S (248 + i) (5 : Int).toNat ≤ 6 := by have e := h.c (248 + i) 5; rw [lh_ru hi] at e; exact e
theorem lh_ru6 {i : Nat} (h : i < 24) : lh (248 + i) (6 : Int).toNat = (0, 8) := lh_ru h
theorem ruc6 {S : sS} {i : Nat} (h : HI S) (hi : i < 24) : 0 ≤ Xi S (248 + i) (6 : Int).toNat ∧ Xi S (248 + i) (6 : Int).toNat ≤ 8 := by have e := h.c (248 + i) 6; rw [lh_ru hi] at e; exact e
theorem lh_ru7 {i : Nat} (h : i < 24) : lh (248 + i) (7 : Int).toNat = (0, 200000) := lh_ru h
theorem ruc7 {S : sS} {i : Nat} (h : HI S) (hi : i < 24) : 0 ≤ Xi S (248 + i) (7 : Int).toNat ∧ Xi S (248 + i) (7 : Int).toNat ≤ 200000 := by have e := h.c (248 + i) 7; rw [lh_ru hi] at e; exact e
section SAFE
variable {d pc : Nat} {q : mT} {L : List (Nat × Value)} {st : List Value} {S : sS} {Q : pst} {lay : Nat → Nat × Nat}
theorem l_dup {v : Value} (hc : lk q.2.2.2.2.2 pc = some .dup) (hv : Nat.beq v.category 1 = true) (h : Rl lay d q (pc + 1) L (v :: v :: st) S Q) : Rl lay d q pc L (v :: st) S Q :=
  Rl_s hc rfl (fun lv ha => ⟨lv, by show (bif Nat.beq v.category 1 then some (pc + 1, lv, v :: v :: st, S) else none) = _; rw [hv]; rfl, ha⟩) h
theorem l_pop {v : Value} (hc : lk q.2.2.2.2.2 pc = some .pop) (hv : Nat.beq v.category 1 = true) (h : Rl lay d q (pc + 1) L st S Q) : Rl lay d q pc L (v :: st) S Q :=
  Rl_s hc rfl (fun lv ha => ⟨lv, by show (bif Nat.beq v.category 1 then some (pc + 1, lv, st, S) else none) = _; rw [hv]; rfl, ha⟩) h
theorem l_dup2 {v u : Value} (hc : lk q.2.2.2.2.2 pc = some .dup2) (hv : (Nat.beq v.category 1 && Nat.beq u.category 1) = true) (h : Rl lay d q (pc + 1) L (v :: u :: v :: u :: st) S Q) : Rl lay d q pc L (v :: u :: st) S Q :=
  Rl_s hc rfl (fun lv ha => ⟨lv, by show (bif Nat.beq v.category 1 && Nat.beq u.category 1 then some (pc + 1, lv, v :: u :: v :: u :: st, S) else none) = _; rw [hv]; rfl, ha⟩) h
theorem l_bastoreB {k n : Nat} {x v : Int} (hc : lk q.2.2.2.2.2 pc = some .bastore) (hl : lay k = (3, n)) (h0 : 0 ≤ x) (h1 : x < n) (hx : rg x) (h : Rl lay d q (pc + 1) L st (uI S k x.toNat (vp_nar .byte (Int32.ofInt v))) Q) : Rl lay d q pc L (iv v :: iv x :: .ref k :: st) S Q :=
  Rl_s hc rfl (fun lv ha => ⟨lv, by
    show (bif inb (Int32.ofInt x) (lay k).2 then (bif Nat.beq (lay k).1 3 then some (pc + 1, lv, st, uI S k (Int32.ofInt x).toNatClampNeg (vp_nar .byte (Int32.ofInt v))) else bif Nat.beq (lay k).1 4 then some (pc + 1, lv, st, uI S k (Int32.ofInt x).toNatClampNeg (vp_nar .boolean (Int32.ofInt v))) else none) else none) = _
    rw [hl, inb_i h0 h1 hx, ix_i hx]; rfl, ha⟩) h
theorem l_bastoreZ {k n : Nat} {x v : Int} (hc : lk q.2.2.2.2.2 pc = some .bastore) (hl : lay k = (4, n)) (h0 : 0 ≤ x) (h1 : x < n) (hx : rg x) (h : Rl lay d q (pc + 1) L st (uI S k x.toNat (vp_nar .boolean (Int32.ofInt v))) Q) : Rl lay d q pc L (iv v :: iv x :: .ref k :: st) S Q :=
  Rl_s hc rfl (fun lv ha => ⟨lv, by
    show (bif inb (Int32.ofInt x) (lay k).2 then (bif Nat.beq (lay k).1 3 then some (pc + 1, lv, st, uI S k (Int32.ofInt x).toNatClampNeg (vp_nar .byte (Int32.ofInt v))) else bif Nat.beq (lay k).1 4 then some (pc + 1, lv, st, uI S k (Int32.ofInt x).toNatClampNeg (vp_nar .boolean (Int32.ofInt v))) else none) else none) = _
    rw [hl, inb_i h0 h1 hx, ix_i hx]; rfl, ha⟩) h
theorem l_bastoreB1 {k n : Nat} {x v : Int} (hc : lk q.2.2.2.2.2 pc = some .bastore) (hl : lay k = (3, n)) (h0 : 0 ≤ x) (h1 : x < n) (hx : rg x) (hv : -128 ≤ v ∧ v ≤ 127) (h : Rl lay d q (pc + 1) L st (uI S k x.toNat (Int32.ofInt v)) Q) : Rl lay d q pc L (iv v :: iv x :: .ref k :: st) S Q :=
  l_bastoreB hc hl h0 h1 hx (by rw [nar_bz hv]; exact h)
theorem l_bastoreZ1 {k n : Nat} {x v : Int} (hc : lk q.2.2.2.2.2 pc = some .bastore) (hl : lay k = (4, n)) (h0 : 0 ≤ x) (h1 : x < n) (hx : rg x) (hv : 0 ≤ v ∧ v ≤ 1) (h : Rl lay d q (pc + 1) L st (uI S k x.toNat (Int32.ofInt v)) Q) : Rl lay d q pc L (iv v :: iv x :: .ref k :: st) S Q :=
  l_bastoreZ hc hl h0 h1 hx (by rw [nar_z hv]; exact h)
theorem l_alen {k n t : Nat} {z : Int} (hc : lk q.2.2.2.2.2 pc = some .arraylength) (hv : Nat.ble SV k = false) (hl : lay k = (t, n)) (ht : (Nat.ble 1 t && Nat.ble t 6) = true) (hz : Int32.ofNat n = Int32.ofInt z) (h : Rl lay d q (pc + 1) L (iv z :: st) S Q) : Rl lay d q pc L (.ref k :: st) S Q :=
  Rl_s hc rfl (fun lv ha => ⟨lv, by
    show (bif Nat.ble SV k then _ else bif Nat.ble 1 (lay k).1 && Nat.ble (lay k).1 6 then some (pc + 1, lv, Value.int (Int32.ofNat (lay k).2) :: st, S) else none) = _
    rw [hv, hl]
    show (bif Nat.ble 1 t && Nat.ble t 6 then some (pc + 1, lv, Value.int (Int32.ofNat n) :: st, S) else none) = _
    rw [ht, hz]; rfl, ha⟩) h
end SAFE


