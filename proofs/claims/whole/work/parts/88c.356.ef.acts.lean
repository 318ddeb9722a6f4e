section
/-! TURNS of the class: what acts do, as functions of states -/
abbrev TKC (S : sS) (o : Int) : Prop := hasA S o 0 ≠ 0 ∨ (Xi S 23 o.toNat = 0 ∧ (Xi S 22 o.toNat = 4 ∨ Xi S 22 o.toNat = 5)) ∨ isW S 0 o ≠ 0
abbrev PHO (S : sS) (o : Int) : Prop := Xi S 23 o.toNat = 0 ∧ (Xi S 22 o.toNat = 4 ∨ Xi S 22 o.toNat = 5)
def goC (S : sS) (dir : Int) : Int := if Xi S 22 0 ≠ 1 ∨ Xi S 23 0 < 0 ∨ isK S (Xi S 21 (Xi S 23 0).toNat) 1 = 0 then -1 else rbh S (Xi S 23 0) dir
theorem go_0 {S : sS} {dir : Int} (h : Xi S 22 0 ≠ 1 ∨ Xi S 23 0 < 0 ∨ isK S (Xi S 21 (Xi S 23 0).toNat) 1 = 0) : goC S dir = -1 := by unfold goC; rw [if_pos h]
theorem go_1 {S : sS} {dir z : Int} (h1 : Xi S 22 0 = 1) (h2 : 0 ≤ Xi S 23 0) (h3 : isK S (Xi S 21 (Xi S 23 0).toNat) 1 ≠ 0) (e : z = rbh S (Xi S 23 0) dir) : goC S dir = z := by unfold goC; rw [if_neg (by omega), e]
def scF (S : sS) (a o : Int) : sS × Int := if a = 1 then (if TKC S o then (S, 0) else (plO S o 4 0, 1)) else if a = 2 then (if PHO S o then (plO S o (Xi S 22 0) (Xi S 23 0), 1) else (S, 0)) else if a = 3 then (wlF S (txL S (txr S) (vof S o 0) (lof S o 0).toNat ++ [10]), 1) else if a = 4 then (if goC S o = -1 then (S, 0) else (plO S 0 1 (goC S o), 1)) else (S, 1)
theorem sc_1 {S T : sS} {a o z : Int} (ha : a = 1) (h : (TKC S o ∧ z = 0 ∧ T = S) ∨ (¬ TKC S o ∧ z = 1 ∧ T = plO S o 4 0)) : (T, z) = scF S a o := by
  unfold scF; rw [if_pos ha]
  rcases h with ⟨h1, h2, h3⟩ | ⟨h1, h2, h3⟩
  · rw [if_pos h1, h2, h3]
  · rw [if_neg h1, h2, h3]
theorem sc_2 {S T : sS} {a o z : Int} (ha : a = 2) (h : (¬ PHO S o ∧ z = 0 ∧ T = S) ∨ (PHO S o ∧ z = 1 ∧ T = plO S o (Xi S 22 0) (Xi S 23 0))) : (T, z) = scF S a o := by
  unfold scF; rw [if_neg (by omega), if_pos ha]
  rcases h with ⟨h1, h2, h3⟩ | ⟨h1, h2, h3⟩
  · rw [if_neg h1, h2, h3]
  · rw [if_pos h1, h2, h3]
theorem sc_3 {S T : sS} {a o : Int} (ha : a = 3) (h : T = wlF S (txL S (txr S) (vof S o 0) (lof S o 0).toNat ++ [10])) : (T, (1 : Int)) = scF S a o := by
  unfold scF; rw [if_neg (by omega), if_neg (by omega), if_pos ha, h]
theorem sc_4 {S T : sS} {a o z : Int} (ha : a = 4) (h : (goC S o = -1 ∧ z = 0 ∧ T = S) ∨ (goC S o ≠ -1 ∧ z = 1 ∧ T = plO S 0 1 (goC S o))) : (T, z) = scF S a o := by
  unfold scF; rw [if_neg (by omega), if_neg (by omega), if_neg (by omega), if_pos ha]
  rcases h with ⟨h1, h2, h3⟩ | ⟨h1, h2, h3⟩
  · rw [if_pos h1, h2, h3]
  · rw [if_neg h1, h2, h3]
theorem sc_5 {S : sS} {a o : Int} (ha : a ≠ 1 ∧ a ≠ 2 ∧ a ≠ 3 ∧ a ≠ 4) : (S, (1 : Int)) = scF S a o := by
  unfold scF; rw [if_neg ha.1, if_neg ha.2.1, if_neg ha.2.2.1, if_neg ha.2.2.2]
/-- whether a rule applies -/
def apC (S : sS) (ri : Nat) (a o : Int) : Int := if Xi S (248 + ri) 1 ≠ a ∨ (Xi S (248 + ri) 2 ≠ -1 ∧ Xi S (248 + ri) 2 ≠ o) ∨ (Xi S (248 + ri) 3 ≠ -1 ∧ isK S (Xi S 21 o.toNat) (Xi S (248 + ri) 3) = 0) then 0 else alT (fun i => hoC (ahC S 8) S ((Xi S (248 + ri) 7).toNat + i) o) (Xi S (248 + ri) 4 + Xi S (248 + ri) 5 - 0).toNat 0
theorem zap_0 {S : sS} {ri : Nat} {a o : Int} (hr : ri < 24) (h : Xi S (248 + ri) 1 ≠ a ∨ (Xi S (248 + ri) 2 ≠ -1 ∧ Xi S (248 + ri) 2 ≠ o) ∨ (Xi S (248 + ri) 3 ≠ -1 ∧ isK S (Xi S 21 o.toNat) (Xi S (248 + ri) 3) = 0)) : apC (zcS S) ri a o = 0 := by
  unfold apC
  rw [if_pos (by rw [zc_x (by omega), zc_x (by omega), zc_x (by omega), zc_x (by decide), zc_isK]; exact h)]
theorem zap_1 {S : sS} {ri : Nat} {a o : Int} (hr : ri < 24) (h1 : Xi S (248 + ri) 1 = a) (h2 : Xi S (248 + ri) 2 = -1 ∨ Xi S (248 + ri) 2 = o) (h3 : Xi S (248 + ri) 3 = -1 ∨ isK S (Xi S 21 o.toNat) (Xi S (248 + ri) 3) ≠ 0) : apC (zcS S) ri a o = alT (fun i => hoC (ahC (zcS S) 8) (zcS S) ((Xi S (248 + ri) 7).toNat + i) o) (Xi S (248 + ri) 4 + Xi S (248 + ri) 5 - 0).toNat (0 : Int).toNat := by
  have e : ∀ j, Xi (zcS S) (248 + ri) j = Xi S (248 + ri) j := fun j => zc_x (by omega)
  have e21 : Xi (zcS S) 21 o.toNat = Xi S 21 o.toNat := zc_x (by decide)
  unfold apC
  rw [e 1, e 2, e 3, e 4, e 5, e 7, e21, zc_isK, if_neg (by omega)]
  rfl
/-- the state behind the question whether a rule applies: what is remembered may be another -/
noncomputable def apS (S : sS) (ri : Nat) (a o : Int) : sS := @dite _ (∃ T, FR zcM S T ∧ ∃ r d G, evd lay0 G d m_tu_applies [.ref 900, .ref (248 + ri), iv a, iv o] S = some (r, T)) (Classical.propDecidable _) (fun h => h.choose) (fun _ => S)
theorem aps_f {S : sS} {ri : Nat} {a o : Int} : FR zcM S (apS S ri a o) := by
  unfold apS
  by_cases h : ∃ T, FR zcM S T ∧ ∃ r d G, evd lay0 G d m_tu_applies [.ref 900, .ref (248 + ri), iv a, iv o] S = some (r, T)
  · rw [dif_pos h]; exact h.choose_spec.1
  · rw [dif_neg h]; exact FR.rf
theorem aps_e {S T : sS} {ri : Nat} {a o : Int} {r : Option Value} {d G : Nat} (F : FR zcM S T) (h : evd lay0 G d m_tu_applies [.ref 900, .ref (248 + ri), iv a, iv o] S = some (r, T)) : T = apS S ri a o := by
  have k : ∃ T, FR zcM S T ∧ ∃ r d G, evd lay0 G d m_tu_applies [.ref 900, .ref (248 + ri), iv a, iv o] S = some (r, T) := ⟨T, F, r, d, G, h⟩
  unfold apS
  rw [dif_pos k]
  obtain ⟨_, r2, d2, G2, h2⟩ := k.choose_spec
  have e1 := evd_mono (Nat.le_max_left G G2) d (max d d2) (Nat.le_max_left _ _) _ _ _ _ h
  have e2 := evd_mono (Nat.le_max_right G G2) d2 (max d d2) (Nat.le_max_right _ _) _ _ _ _ h2
  rw [e1] at e2
  exact (Prod.mk.inj (Option.some.inj e2)).2
theorem ap_0 {S : sS} {ri : Nat} {a o : Int} (h : Xi S (248 + ri) 1 ≠ a ∨ (Xi S (248 + ri) 2 ≠ -1 ∧ Xi S (248 + ri) 2 ≠ o) ∨ (Xi S (248 + ri) 3 ≠ -1 ∧ isK S (Xi S 21 o.toNat) (Xi S (248 + ri) 3) = 0)) : apC S ri a o = 0 := by unfold apC; rw [if_pos h]
theorem ap_1 {S : sS} {ri : Nat} {a o : Int} (h1 : Xi S (248 + ri) 1 = a) (h2 : Xi S (248 + ri) 2 = -1 ∨ Xi S (248 + ri) 2 = o) (h3 : Xi S (248 + ri) 3 = -1 ∨ isK S (Xi S 21 o.toNat) (Xi S (248 + ri) 3) ≠ 0) : apC S ri a o = alT (fun i => hoC (ahC S 8) S ((Xi S (248 + ri) 7).toNat + i) o) (Xi S (248 + ri) 4 + Xi S (248 + ri) 5 - 0).toNat (0 : Int).toNat := by
  unfold apC; rw [if_neg (by omega)]; rfl
/-- what a phrase does -/
def adW (x y : Int) : Int := (Int32.ofInt x + Int32.ofInt y).toInt
def clW (c : Int) : Int := if (-999999) < (if c < 999999 then c else 999999) then (if c < 999999 then c else 999999) else (-999999)
section
variable {lay : Nat → Nat × Nat} {d pc : Nat} {q : mT} {L : List (Nat × Value)} {st : List Value} {S : sS} {Q : pst}
theorem l_iaddG {x y : Int} (hc : lk q.2.2.2.2.2 pc = some .iadd) (h : ∀ c : Int, (-2147483648 ≤ c ∧ c ≤ 2147483647) → c = adW x y → Rl lay d q (pc + 1) L (iv c :: st) S Q) : Rl lay d q pc L (iv y :: iv x :: st) S Q := by
  have k := h (adW x y) ⟨rg_toI.1, Int.le_of_lt_add_one rg_toI.2⟩ rfl
  refine Rl_s hc rfl (fun lv ha => ⟨lv, ?_, ha⟩) k
  show some (pc + 1, lv, Value.int (Int32.ofInt x + Int32.ofInt y) :: st, S) = some (pc + 1, lv, Value.int (Int32.ofInt (adW x y)) :: st, S)
  unfold adW
  rw [ofI_toI]
end
def pfF (tr : sS → Int → Int → sS) (S : sS) (cl : Nat) (noun : Int) : sS :=
  if Xi S (276 + cl) 0 = 0 then saF S (whU noun (Xi S (276 + cl) 2)) (Xi S (276 + cl) 3) (if Xi S (276 + cl) 1 ≠ 0 then 0 else 1)
  else if Xi S (276 + cl) 0 = 1 ∨ Xi S (276 + cl) 0 = 4 then spF S (whU noun (Xi S (276 + cl) 2)) (Xi S (276 + cl) 3) (Xi S (276 + cl) 4) (Xi S (276 + cl) 5)
  else if Xi S (276 + cl) 0 = 6 then rnF S (Xi S (276 + cl) 3) (whU noun (Xi S (276 + cl) 2)) (whU noun (Xi S (276 + cl) 6))
  else if Xi S (276 + cl) 0 = 8 then mvF S (whU noun (Xi S (276 + cl) 2)) (whU noun (Xi S (276 + cl) 6))
  else if Xi S (276 + cl) 0 = 9 then spF S (whU noun (Xi S (276 + cl) 2)) (Xi S (276 + cl) 3) (clW (adW (vof S (whU noun (Xi S (276 + cl) 2)) (Xi S (276 + cl) 3).toNat) (Xi S (276 + cl) 4))) 0
  else if Xi S (276 + cl) 0 = 10 then tr S (Xi S (276 + cl) 3) (whU noun (Xi S (276 + cl) 2))
  else S
theorem pf_0 {tr : sS → Int → Int → sS} {S T : sS} {cl : Nat} {noun o h : Int} (f : Xi S (276 + cl) 0 = 0) (w : whU noun (Xi S (276 + cl) 2) = o) (hh : (Xi S (276 + cl) 1 ≠ 0 ∧ h = 0) ∨ (Xi S (276 + cl) 1 = 0 ∧ h = 1)) (e : T = saF S o (Xi S (276 + cl) 3) h) : T = pfF tr S cl noun := by
  unfold pfF; rw [if_pos f, w, e]
  rcases hh with ⟨x, y⟩ | ⟨x, y⟩
  · rw [if_pos x, y]
  · rw [if_neg (fun q => q x), y]
theorem pf_1 {tr : sS → Int → Int → sS} {S T : sS} {cl : Nat} {noun o : Int} (f : Xi S (276 + cl) 0 = 1 ∨ Xi S (276 + cl) 0 = 4) (w : whU noun (Xi S (276 + cl) 2) = o) (e : T = spF S o (Xi S (276 + cl) 3) (Xi S (276 + cl) 4) (Xi S (276 + cl) 5)) : T = pfF tr S cl noun := by
  unfold pfF; rw [if_neg (by omega), if_pos f, w, e]
theorem pf_6 {tr : sS → Int → Int → sS} {S T : sS} {cl : Nat} {noun o m : Int} (f : Xi S (276 + cl) 0 = 6) (w : whU noun (Xi S (276 + cl) 2) = o) (u : whU noun (Xi S (276 + cl) 6) = m) (e : T = rnF S (Xi S (276 + cl) 3) o m) : T = pfF tr S cl noun := by
  unfold pfF; rw [if_neg (by omega), if_neg (by omega), if_pos f, w, u, e]
theorem pf_8 {tr : sS → Int → Int → sS} {S T : sS} {cl : Nat} {noun o m : Int} (f : Xi S (276 + cl) 0 = 8) (w : whU noun (Xi S (276 + cl) 2) = o) (u : whU noun (Xi S (276 + cl) 6) = m) (e : T = mvF S o m) : T = pfF tr S cl noun := by
  unfold pfF; rw [if_neg (by omega), if_neg (by omega), if_neg (by omega), if_pos f, w, u, e]
theorem pf_9 {tr : sS → Int → Int → sS} {S T : sS} {cl : Nat} {noun o z c : Int} (f : Xi S (276 + cl) 0 = 9) (w : whU noun (Xi S (276 + cl) 2) = o) (ez : z = vof S o (Xi S (276 + cl) 3).toNat) (ec : c = adW z (Xi S (276 + cl) 4)) (e : T = spF S o (Xi S (276 + cl) 3) (clW c) 0) : T = pfF tr S cl noun := by
  unfold pfF; rw [if_neg (by omega), if_neg (by omega), if_neg (by omega), if_neg (by omega), if_pos f, w, e, ec, ez]
theorem pf_10 {tr : sS → Int → Int → sS} {S T : sS} {cl : Nat} {noun o : Int} (f : Xi S (276 + cl) 0 = 10) (w : whU noun (Xi S (276 + cl) 2) = o) (e : T = tr S (Xi S (276 + cl) 3) o) : T = pfF tr S cl noun := by
  unfold pfF; rw [if_neg (by omega), if_neg (by omega), if_neg (by omega), if_neg (by omega), if_neg (by omega), if_pos f, w, e]
theorem pf_n {tr : sS → Int → Int → sS} {S : sS} {cl : Nat} {noun : Int} (f : Xi S (276 + cl) 0 ≠ 0 ∧ Xi S (276 + cl) 0 ≠ 1 ∧ Xi S (276 + cl) 0 ≠ 4 ∧ Xi S (276 + cl) 0 ≠ 6 ∧ Xi S (276 + cl) 0 ≠ 8 ∧ Xi S (276 + cl) 0 ≠ 9 ∧ Xi S (276 + cl) 0 ≠ 10) : S = pfF tr S cl noun := by
  unfold pfF; rw [if_neg (by omega), if_neg (by omega), if_neg (by omega), if_neg (by omega), if_neg (by omega), if_neg (by omega)]
/-- one phrase more -/
def phI (S : sS) : sS := uI (uI S 900 5 (Int32.ofInt (Xi S 900 5 + 1))) 900 6 (Int32.ofInt (if 300 < Xi S 900 5 + 1 then 1 else 0))
theorem phi_i {S T U : sS} {b : Int} (e1 : T = uI S 900 5 (Int32.ofInt (Xi S 900 5 + 1))) (e2 : U = uI T 900 6 (Int32.ofInt b)) (h : (300 < Xi S 900 5 + 1 ∧ b = 1) ∨ (Xi S 900 5 + 1 ≤ 300 ∧ b = 0)) : U = phI S := by
  unfold phI; rw [e2, e1]
  rcases h with ⟨x, y⟩ | ⟨x, y⟩
  · rw [if_pos x, y]
  · rw [if_neg (by omega), y]
def phS (tr : sS → Int → Int → sS) (noun : Int) (S : sS) (cl : Nat) : sS := if Xi (phI S) 900 6 ≠ 0 then phI S else if Xi (phI S) (276 + cl) 0 = 7 then wlF (phI S) (syA (phI S) cl noun ++ [10]) else pfF tr (phI S) cl noun
theorem ps_1 {tr : sS → Int → Int → sS} {S U : sS} {cl : Nat} {noun : Int} (i : U = phI S) (e : Xi U 900 6 ≠ 0) : U = phS tr noun S cl := by unfold phS; rw [← i, if_pos e]
theorem ps_2 {tr : sS → Int → Int → sS} {S T U : sS} {cl : Nat} {noun : Int} (i : U = phI S) (e : Xi U 900 6 = 0) (f : Xi U (276 + cl) 0 = 7) (t : T = wlF U (syA U cl noun ++ [10])) : T = phS tr noun S cl := by unfold phS; rw [← i, if_neg (by omega), if_pos f, t]
theorem ps_3 {tr : sS → Int → Int → sS} {S T U : sS} {cl : Nat} {noun : Int} (i : U = phI S) (e : Xi U 900 6 = 0) (f : Xi U (276 + cl) 0 ≠ 7) (t : T = pfF tr U cl noun) : T = phS tr noun S cl := by unfold phS; rw [← i, if_neg (by omega), if_neg f, t]
def phC (tr : sS → Int → Int → sS) (noun : Int) : Nat → Nat → sS → Int → sS × Int
  | 0, _, S, st => (S, st)
  | n + 1, cl, S, st => if st ≠ 0 ∨ Xi S 900 6 ≠ 0 then (S, st) else phC tr noun n (cl + 1) (phS tr noun S cl) (if Xi (phI S) (276 + cl) 0 = 11 then 1 else 0)
theorem ph_e {tr : sS → Int → Int → sS} {noun c v st : Int} {cl : Nat} {S : sS} (h : c ≤ v ∨ st ≠ 0 ∨ Xi S 900 6 ≠ 0) : phC tr noun (c - v).toNat cl S st = (S, st) := by
  cases q : (c - v).toNat with
  | zero => rfl
  | succ n => unfold phC; rw [if_pos (by omega)]
theorem ph_s {tr : sS → Int → Int → sS} {noun c v a st f : Int} {cl : Nat} {S T : sS} (hv : v < c) (h0 : 0 ≤ v ∧ 0 ≤ a) (hs : st = 0) (he : Xi S 900 6 = 0) (hc : (cl : Int) = a + v) (hT : T = phS tr noun S cl) (hf : (Xi (phI S) (276 + cl) 0 = 11 ∧ f = 1) ∨ (Xi (phI S) (276 + cl) 0 ≠ 11 ∧ f = 0)) : phC tr noun (c - v).toNat (a + v).toNat S st = phC tr noun (c - (v + 1)).toNat (a + (v + 1)).toNat T f := by
  rw [show (c - v).toNat = (c - (v + 1)).toNat + 1 by omega, show (a + (v + 1)).toNat = cl + 1 by omega, show (a + v).toNat = cl by omega]
  conv => lhs; unfold phC
  rw [if_neg (by omega), ← hT]
  rcases hf with ⟨x, y⟩ | ⟨x, y⟩
  · rw [if_pos x, y]
  · rw [if_neg x, y]
/-- the rules of a sort -/
def rnP (tr : sS → Int → Int → sS) (o : Int) (S : sS) (ru : Nat) : sS × Int := phC tr o (Xi S (248 + ru) 6 - 0).toNat (Xi S (248 + ru) 7 + Xi S (248 + ru) 4 + Xi S (248 + ru) 5 + 0).toNat S 0
noncomputable def rrC (tr : sS → Int → Int → sS) (sort a o : Int) : Nat → Nat → sS → sS × Int
  | 0, _, S => (S, 0)
  | n + 1, i, S => if Xi S 900 6 ≠ 0 then (S, 0) else if Xi S (248 + (Xi S 272 i).toNat) 0 ≠ sort then rrC tr sort a o n (i + 1) S
    else if apC (zcS S) (Xi S 272 i).toNat a o = 0 then rrC tr sort a o n (i + 1) (apS S (Xi S 272 i).toNat a o)
    else if Xi (rnP tr o (apS S (Xi S 272 i).toNat a o) (Xi S 272 i).toNat).1 900 6 = 0 ∧ (sort = 1 ∨ ((rnP tr o (apS S (Xi S 272 i).toNat a o) (Xi S 272 i).toNat).2 ≠ 0 ∧ sort ≠ 3)) then ((rnP tr o (apS S (Xi S 272 i).toNat a o) (Xi S 272 i).toNat).1, 1)
    else rrC tr sort a o n (i + 1) (rnP tr o (apS S (Xi S 272 i).toNat a o) (Xi S 272 i).toNat).1
noncomputable def rrD (tr : sS → Int → Int → sS) (sort a o : Int) (n i : Nat) (P : sS × Int) : sS × Int := if Xi P.1 900 6 = 0 ∧ (sort = 1 ∨ (P.2 ≠ 0 ∧ sort ≠ 3)) then (P.1, 1) else rrC tr sort a o n i P.1
theorem rr_e {tr : sS → Int → Int → sS} {sort a o c v : Int} {i : Nat} {S : sS} (h : c ≤ v ∨ Xi S 900 6 ≠ 0) : rrC tr sort a o (c - v).toNat i S = (S, 0) := by
  cases q : (c - v).toNat with
  | zero => rfl
  | succ n => unfold rrC; rw [if_pos (by omega)]
theorem rr_j {tr : sS → Int → Int → sS} {sort a o c v : Int} {S : sS} (hv : 0 ≤ v ∧ v < c) (he : Xi S 900 6 = 0) (h : Xi S (248 + (Xi S 272 v.toNat).toNat) 0 ≠ sort) : rrC tr sort a o (c - v).toNat v.toNat S = rrC tr sort a o (c - (v + 1)).toNat (v + 1).toNat S := by
  rw [show (c - v).toNat = (c - (v + 1)).toNat + 1 by omega, show (v + 1).toNat = v.toNat + 1 by omega]
  conv => lhs; unfold rrC
  rw [if_neg (by omega), if_pos h]
theorem rr_na {tr : sS → Int → Int → sS} {sort a o c v : Int} {S T : sS} (hv : 0 ≤ v ∧ v < c) (he : Xi S 900 6 = 0) (h1 : Xi S (248 + (Xi S 272 v.toNat).toNat) 0 = sort) (h2 : apC (zcS S) (Xi S 272 v.toNat).toNat a o = 0) (hT : T = apS S (Xi S 272 v.toNat).toNat a o) : rrC tr sort a o (c - v).toNat v.toNat S = rrC tr sort a o (c - (v + 1)).toNat (v + 1).toNat T := by
  rw [show (c - v).toNat = (c - (v + 1)).toNat + 1 by omega, show (v + 1).toNat = v.toNat + 1 by omega]
  conv => lhs; unfold rrC
  rw [if_neg (by omega), if_neg (fun x => x h1), if_pos h2, hT]
theorem rr_g {tr : sS → Int → Int → sS} {sort a o c v : Int} {ru : Nat} {S T : sS} (hv : 0 ≤ v ∧ v < c) (he : Xi S 900 6 = 0) (hr : ru = (Xi S 272 v.toNat).toNat) (h1 : Xi S (248 + ru) 0 = sort) (h2 : apC (zcS S) ru a o ≠ 0) (hT : T = apS S ru a o) : rrC tr sort a o (c - v).toNat v.toNat S = rrD tr sort a o (c - (v + 1)).toNat (v + 1).toNat (phC tr o (Xi T (248 + ru) 6 - 0).toNat (Xi T (248 + ru) 7 + Xi T (248 + ru) 4 + Xi T (248 + ru) 5 + 0).toNat T 0) := by
  rw [show (c - v).toNat = (c - (v + 1)).toNat + 1 by omega, show (v + 1).toNat = v.toNat + 1 by omega, hT]
  conv => lhs; unfold rrC
  rw [← hr, if_neg (by omega), if_neg (fun x => x h1), if_neg h2]
  rfl
theorem rd_y {tr : sS → Int → Int → sS} {sort a o st : Int} {n i : Nat} {S : sS} (he : Xi S 900 6 = 0) (h : sort = 1 ∨ (st ≠ 0 ∧ sort ≠ 3)) : rrD tr sort a o n i (S, st) = (S, 1) := by unfold rrD; rw [if_pos ⟨he, h⟩]
theorem rd_n {tr : sS → Int → Int → sS} {sort a o st : Int} {n i : Nat} {S : sS} (h : Xi S 900 6 ≠ 0 ∨ (sort ≠ 1 ∧ (st = 0 ∨ sort = 3))) : rrD tr sort a o n i (S, st) = rrC tr sort a o n i S := by unfold rrD; rw [if_neg (show ¬ (Xi S 900 6 = 0 ∧ (sort = 1 ∨ (st ≠ 0 ∧ sort ≠ 3))) by omega)]
/-- an action -/
noncomputable abbrev rrA (tr : sS → Int → Int → sS) (sort a o : Int) (S : sS) : sS × Int := rrC tr sort a o (Xi S 246 2 - 0).toNat (0 : Int).toNat S
noncomputable def do3 (tr : sS → Int → Int → sS) (S : sS) (a o : Int) : sS × Int := ((rrA tr 2 a o S).1, if (rrA tr 2 a o S).2 ≠ 0 then 4 else 0)
noncomputable def do2 (tr : sS → Int → Int → sS) (S : sS) (a o : Int) : sS × Int := if Xi S 900 6 ≠ 0 then (S, 3) else if (scF S a o).2 = 0 then ((scF S a o).1, 3) else do3 tr (scF S a o).1 a o
noncomputable def do1 (tr : sS → Int → Int → sS) (S : sS) (a o : Int) : sS × Int := if Xi S 900 6 ≠ 0 then (S, 2) else if (rrA tr 1 a o S).2 ≠ 0 then ((rrA tr 1 a o S).1, 2) else do2 tr (rrA tr 1 a o S).1 a o
noncomputable def doC (tr : sS → Int → Int → sS) (S : sS) (a o : Int) : sS × Int := if (rrA tr 0 a o S).2 ≠ 0 then ((rrA tr 0 a o S).1, 1) else do1 tr (rrA tr 0 a o S).1 a o
theorem do_a {tr : sS → Int → Int → sS} {S T : sS} {a o z : Int} (f : (T, z) = rrA tr 0 a o S) (h : z ≠ 0) : (T, (1 : Int)) = doC tr S a o := by unfold doC; rw [← f, if_pos h]
theorem do_b {tr : sS → Int → Int → sS} {S T : sS} {a o z : Int} (f : (T, z) = rrA tr 0 a o S) (h : z = 0) : doC tr S a o = do1 tr T a o := by unfold doC; rw [← f, if_neg (by show ¬ z ≠ 0; omega)]
theorem do_c {tr : sS → Int → Int → sS} {S : sS} {a o : Int} (h : Xi S 900 6 ≠ 0) : (S, (2 : Int)) = do1 tr S a o := by unfold do1; rw [if_pos h]
theorem do_d {tr : sS → Int → Int → sS} {S T : sS} {a o z : Int} (e : Xi S 900 6 = 0) (f : (T, z) = rrA tr 1 a o S) (h : z ≠ 0) : (T, (2 : Int)) = do1 tr S a o := by unfold do1; rw [← f, if_neg (by omega), if_pos h]
theorem do_e {tr : sS → Int → Int → sS} {S T : sS} {a o z : Int} (e : Xi S 900 6 = 0) (f : (T, z) = rrA tr 1 a o S) (h : z = 0) : do1 tr S a o = do2 tr T a o := by unfold do1; rw [← f, if_neg (by omega), if_neg (by show ¬ z ≠ 0; omega)]
theorem do_f {tr : sS → Int → Int → sS} {S : sS} {a o : Int} (h : Xi S 900 6 ≠ 0) : (S, (3 : Int)) = do2 tr S a o := by unfold do2; rw [if_pos h]
theorem do_g {tr : sS → Int → Int → sS} {S T : sS} {a o z : Int} (e : Xi S 900 6 = 0) (f : (T, z) = scF S a o) (h : z = 0) : (T, (3 : Int)) = do2 tr S a o := by unfold do2; rw [← f, if_neg (by omega), if_pos h]
theorem do_h {tr : sS → Int → Int → sS} {S T : sS} {a o z : Int} (e : Xi S 900 6 = 0) (f : (T, z) = scF S a o) (h : z ≠ 0) : do2 tr S a o = do3 tr T a o := by unfold do2; rw [← f, if_neg (by omega), if_neg h]
theorem do_i {tr : sS → Int → Int → sS} {S T : sS} {a o z y : Int} (f : (T, z) = rrA tr 2 a o S) (h : (z ≠ 0 ∧ y = 4) ∨ (z = 0 ∧ y = 0)) : (T, y) = do3 tr S a o := by
  unfold do3; rw [← f]
  rcases h with ⟨x, q⟩ | ⟨x, q⟩
  · show (T, y) = (T, if z ≠ 0 then 4 else 0); rw [if_pos x, q]
  · show (T, y) = (T, if z ≠ 0 then 4 else 0); rw [if_neg (by omega), q]
noncomputable def trC : Nat → sS → Int → Int → sS
  | 0, S, _, _ => S
  | n + 1, S, a, w => if Xi S 19 a.toNat = -1 ∨ isK S (Xi S 21 w.toNat) (Xi S 19 a.toNat) ≠ 0 then (doC (trC n) S a w).1 else S
theorem tr_0 {S : sS} {dq a w : Int} (h : 8 ≤ dq ∨ (Xi S 19 a.toNat ≠ -1 ∧ isK S (Xi S 21 w.toNat) (Xi S 19 a.toNat) = 0)) : S = trC (8 - dq).toNat S a w := by
  cases q : (8 - dq).toNat with
  | zero => rfl
  | succ n => unfold trC; rw [if_neg (by omega)]
theorem tr_1 {S T : sS} {dq a w z : Int} (hd : dq < 8) (h : Xi S 19 a.toNat = -1 ∨ isK S (Xi S 21 w.toNat) (Xi S 19 a.toNat) ≠ 0) (f : (T, z) = doC (trC (8 - (dq + 1)).toNat) S a w) : T = trC (8 - dq).toNat S a w := by
  rw [show (8 - dq).toNat = (8 - (dq + 1)).toNat + 1 by omega]
  unfold trC
  rw [if_pos h, ← f]
/-- a turn -/
def ttI (S : sS) : sS := uI (uI S 900 5 (Int32.ofInt 0)) 900 6 (Int32.ofInt 0)
noncomputable def tt1 (P : sS × Int) : sS × Int := if Xi P.1 900 6 ≠ 0 then (P.1, 5) else ((rrA (trC 8) 3 (-1) (-1) P.1).1, if Xi (rrA (trC 8) 3 (-1) (-1) P.1).1 900 6 ≠ 0 then 5 else P.2)
noncomputable def ttC (S : sS) (a o : Int) : sS × Int := tt1 (doC (trC 7) (ttI S) a o)
theorem tt_a {S T U : sS} {a o z y : Int} (i : U = ttI S) (f : (T, z) = doC (trC 7) U a o) (h : Xi T 900 6 ≠ 0) (hy : y = 5) : (T, y) = ttC S a o := by
  unfold ttC; rw [← i, ← f]; unfold tt1; rw [if_pos h, hy]
theorem tt_b {S T U W : sS} {a o z y x : Int} (i : U = ttI S) (f : (T, z) = doC (trC 7) U a o) (h : Xi T 900 6 = 0) (g : (W, x) = rrA (trC 8) 3 (-1) (-1) T) (hy : (Xi W 900 6 ≠ 0 ∧ y = 5) ∨ (Xi W 900 6 = 0 ∧ y = z)) : (W, y) = ttC S a o := by
  unfold ttC; rw [← i, ← f]; unfold tt1; rw [if_neg (by show ¬ Xi T 900 6 ≠ 0; omega)]
  show (W, y) = ((rrA (trC 8) 3 (-1) (-1) T).1, if Xi (rrA (trC 8) 3 (-1) (-1) T).1 900 6 ≠ 0 then 5 else z)
  rw [← g]
  rcases hy with ⟨p, q⟩ | ⟨p, q⟩
  · show (W, y) = (W, if Xi W 900 6 ≠ 0 then 5 else z); rw [if_pos p, q]
  · show (W, y) = (W, if Xi W 900 6 ≠ 0 then 5 else z); rw [if_neg (by omega), q]

abbrev Q_tu_playerHas__w (S : sS) (o : Int) : pst := fun r S1 => S = S1 ∧ (∃ z : Int, r = some (iv z) ∧ (0 ≤ z ∧ z ≤ 1) ∧ ((z = 1 → PHO S o) ∧ (z = 0 → ¬ PHO S o)))
set_option maxRecDepth 100000 in
theorem t_tu_playerHas__w {S : sS} (hH : HI S) (o : Int) (ho : 0 ≤ o ∧ o ≤ 23) (d : Nat) : Mt lay0 (d + 1) m_tu_playerHas [.ref 900, iv o] S (Q_tu_playerHas__w S o) := by
  refine Mt_R rfl rfl ?_
  refine l_aload_n rfl rfl ?_
  refine l_gfr rfl rfl rfl rfl rfl (hH.r 900 1 20 rfl) ?_
  refine l_gfr rfl rfl rfl rfl rfl (hH.r 20 4 23 rfl) ?_
  refine l_iload_n rfl rfl ?_
  refine l_iaload (n := 24) rfl rfl (by omega) (by omega) (by unfold rg; omega) ?_
  have w1 : -1 ≤ (Xi S 23 ((o).toNat)) ∧ (Xi S 23 ((o).toNat)) ≤ 23 := hH.c _ _
  refine l_if_ne rfl rfl (by unfold rg; omega) (fun w2 => ?_) (fun w3 => ?_)
  · refine l_iconst rfl ?_
    refine l_ireturn rfl rfl ?_
    exact ⟨rfl, _, rfl, ⟨by omega, by omega⟩, (by omega)⟩
  · refine l_aload_n rfl rfl ?_
    refine l_gfr rfl rfl rfl rfl rfl (hH.r 900 1 20 rfl) ?_
    refine l_gfr rfl rfl rfl rfl rfl (hH.r 20 3 22 rfl) ?_
    refine l_iload_n rfl rfl ?_
    refine l_iaload (n := 24) rfl rfl (by omega) (by omega) (by unfold rg; omega) ?_
    have w4 : 0 ≤ (Xi S 22 ((o).toNat)) ∧ (Xi S 22 ((o).toNat)) ≤ 5 := hH.c _ _
    refine l_iconst rfl ?_
    refine l_icmp_eq rfl rfl (by unfold rg; omega) (by unfold rg; omega) (fun w5 => ?_) (fun w6 => ?_)
    · refine l_iconst rfl ?_
      refine l_goto rfl rfl ?_
      refine l_ireturn rfl rfl ?_
      exact ⟨rfl, _, rfl, ⟨by omega, by omega⟩, (by omega)⟩
    · refine l_aload_n rfl rfl ?_
      refine l_gfr rfl rfl rfl rfl rfl (hH.r 900 1 20 rfl) ?_
      refine l_gfr rfl rfl rfl rfl rfl (hH.r 20 3 22 rfl) ?_
      refine l_iload_n rfl rfl ?_
      refine l_iaload (n := 24) rfl rfl (by omega) (by omega) (by unfold rg; omega) ?_
      refine l_iconst rfl ?_
      refine l_icmp_ne rfl rfl (by unfold rg; omega) (by unfold rg; omega) (fun w7 => ?_) (fun w8 => ?_)
      · refine l_iconst rfl ?_
        refine l_ireturn rfl rfl ?_
        exact ⟨rfl, _, rfl, ⟨by omega, by omega⟩, (by omega)⟩
      · refine l_iconst rfl ?_
        refine l_goto rfl rfl ?_
        refine l_ireturn rfl rfl ?_
        exact ⟨rfl, _, rfl, ⟨by omega, by omega⟩, (by omega)⟩
def md_tu_take__w : List rec := [(22, 23, 0, 100000), (23, 24, 0, 100000)]
abbrev Q_tu_take__w (S : sS) (o : Int) : pst := fun r S1 => HI S1 ∧ FR md_tu_take__w S S1 ∧ (∃ z : Int, r = some (iv z) ∧ (0 ≤ z ∧ z ≤ 1) ∧ ((TKC S o ∧ z = 0 ∧ S1 = S) ∨ (¬ TKC S o ∧ z = 1 ∧ S1 = plO S o 4 0)))
set_option maxRecDepth 100000 in
theorem t_tu_take__w {S : sS} (hH : HI S) (o : Int) (ho : 0 ≤ o ∧ o ≤ 23) (d : Nat) : Mt lay0 (d + 2) m_tu_take [.ref 900, iv o] S (Q_tu_take__w S o) := by
  refine Mt_R rfl rfl ?_
  have hF : FR md_tu_take__w S S := FR.rf
  have C32 : (TKC S o) → Rl lay0 (d + 1) m_tu_take 32 [] [] S (Q_tu_take__w S o) := by
    intro w1
    refine l_iconst rfl ?_
    refine l_ireturn rfl rfl ?_
    exact ⟨hH, hF, _, rfl, ⟨by omega, by omega⟩, (by first | (have t := K41; exact Or.inr ⟨by omega, rfl, e41⟩) | exact Or.inl ⟨by omega, rfl, rfl⟩)⟩
  refine l_aload_n rfl rfl ?_
  refine l_gfr rfl rfl rfl rfl rfl (hH.r 900 1 20 rfl) ?_
  refine l_iload_n rfl rfl ?_
  refine l_iconst rfl ?_
  refine l_callV rfl rfl rfl (t_wo_hasAdjective hH o 0 ⟨by omega, by omega⟩ ⟨by omega, by omega⟩ _) ?_
  rintro _ _ ⟨rfl, z3, rfl, w3, w2⟩
  show Rl _ _ _ _ _ [iv z3] _ _
  refine l_if_ne rfl rfl (by unfold rg; omega) (fun w4 => ?_) (fun w5 => ?_)
  · exact Rl_weak (C32  (by omega)) (True.intro)
  · refine l_aload_n rfl rfl ?_
    refine l_iload_n rfl rfl ?_
    refine l_callV rfl rfl rfl (t_tu_playerHas__w hH o ⟨by omega, by omega⟩ _) ?_
    rintro _ _ ⟨rfl, z7, rfl, w7, w6⟩
    show Rl _ _ _ _ _ [iv z7] _ _
    refine l_if_ne rfl rfl (by unfold rg; omega) (fun w8 => ?_) (fun w9 => ?_)
    · exact Rl_weak (C32  (by omega)) (True.intro)
    · refine l_aload_n rfl rfl ?_
      refine l_gfr rfl rfl rfl rfl rfl (hH.r 900 1 20 rfl) ?_
      refine l_iconst rfl ?_
      refine l_iload_n rfl rfl ?_
      refine l_callV rfl rfl rfl (t_wo_isWithin hH 0 o ⟨by omega, by omega⟩ ⟨by omega, by omega⟩ _) ?_
      rintro _ _ ⟨rfl, z11, rfl, w11, w10⟩
      show Rl _ _ _ _ _ [iv z11] _ _
      refine l_if_eq rfl rfl (by unfold rg; omega) (fun w12 => ?_) (fun w13 => ?_)
      · refine l_aload_n rfl rfl ?_
        refine l_gfr rfl rfl rfl rfl rfl (hH.r 900 1 20 rfl) ?_
        refine l_iload_n rfl rfl ?_
        refine l_iconst rfl ?_
        refine l_iconst rfl ?_
        refine l_callV rfl rfl rfl (t_wo_place__q hH o 4 0 ⟨by omega, by omega⟩ ⟨by omega, by omega⟩ ⟨by omega, by omega⟩ _) ?_
        rintro _ T1 ⟨hHT1, w15, rfl, e41⟩
        have hFT1 : FR md_tu_take__w S T1 := FR.tr hF w15 rfl
        show Rl _ _ _ _ _ [] _ _
        have K41 : True := trivial
        refine l_iconst rfl ?_
        refine l_ireturn rfl rfl ?_
        exact ⟨hHT1, hFT1, _, rfl, ⟨by omega, by omega⟩, (by first | (have t := K41; exact Or.inr ⟨by omega, rfl, e41⟩) | exact Or.inl ⟨by omega, rfl, rfl⟩)⟩
      · exact Rl_weak (C32  (by omega)) (True.intro)
def md_tu_go__w : List rec := [(22, 23, 0, 100000), (23, 24, 0, 100000)]
abbrev Q_tu_go__w (S : sS) (dir : Int) : pst := fun r S1 => HI S1 ∧ FR md_tu_go__w S S1 ∧ (∃ z : Int, r = some (iv z) ∧ (0 ≤ z ∧ z ≤ 1) ∧ ((goC S dir = -1 ∧ z = 0 ∧ S1 = S) ∨ (goC S dir ≠ -1 ∧ z = 1 ∧ S1 = plO S 0 1 (goC S dir))))
set_option maxRecDepth 100000 in
theorem t_tu_go__w {S : sS} (hH : HI S) (dir : Int) (hdir : 0 ≤ dir ∧ dir ≤ 5) (d : Nat) : Mt lay0 (d + 2) m_tu_go [.ref 900, iv dir] S (Q_tu_go__w S dir) := by
  refine Mt_R rfl rfl ?_
  have hF : FR md_tu_go__w S S := FR.rf
  have w1 : 0 ≤ Xi S 22 0 ∧ Xi S 22 0 ≤ 5 := hH.c _ _
  have w2 : -1 ≤ Xi S 23 0 ∧ Xi S 23 0 ≤ 23 := hH.c _ _
  have e22 : Xi S 22 (0 : Int).toNat = Xi S 22 0 := rfl
  have e23 : Xi S 23 (0 : Int).toNat = Xi S 23 0 := rfl
  have C47 : (Xi S 22 0 ≠ 1 ∨ Xi S 23 0 < 0 ∨ isK S (Xi S 21 (Xi S 23 0).toNat) 1 = 0) → Rl lay0 (d + 1) m_tu_go 47 [] [] S (Q_tu_go__w S dir) := by
    intro w3
    refine l_iconst rfl ?_
    refine l_ireturn rfl rfl ?_
    exact ⟨hH, hF, _, rfl, ⟨by omega, by omega⟩, (by first | (have t := K73; exact Or.inr ⟨by rw [g55]; omega, rfl, by rw [g55]; exact e73⟩) | (have t := g55; exact Or.inl ⟨by rw [g55]; omega, rfl, rfl⟩) | exact Or.inl ⟨go_0 (by omega), rfl, rfl⟩)⟩
  refine l_aload_n rfl rfl ?_
  refine l_gfr rfl rfl rfl rfl rfl (hH.r 900 1 20 rfl) ?_
  refine l_gfr rfl rfl rfl rfl rfl (hH.r 20 4 23 rfl) ?_
  refine l_iconst rfl ?_
  refine l_iaload (n := 24) rfl rfl (by omega) (by omega) (by unfold rg; omega) ?_
  have w4 : -1 ≤ (Xi S 23 ((0 : Int).toNat)) ∧ (Xi S 23 ((0 : Int).toNat)) ≤ 23 := hH.c _ _
  have w5 : (Xi S 23 ((0 : Int).toNat)) = Xi S 23 0 := rfl
  refine l_istore_n rfl rfl rfl ?_
  refine l_aload_n rfl rfl ?_
  refine l_gfr rfl rfl rfl rfl rfl (hH.r 900 1 20 rfl) ?_
  refine l_gfr rfl rfl rfl rfl rfl (hH.r 20 3 22 rfl) ?_
  refine l_iconst rfl ?_
  refine l_iaload (n := 24) rfl rfl (by omega) (by omega) (by unfold rg; omega) ?_
  have w6 : 0 ≤ (Xi S 22 ((0 : Int).toNat)) ∧ (Xi S 22 ((0 : Int).toNat)) ≤ 5 := hH.c _ _
  have w7 : (Xi S 22 ((0 : Int).toNat)) = Xi S 22 0 := rfl
  refine l_iconst rfl ?_
  refine l_icmp_ne rfl rfl (by unfold rg; omega) (by unfold rg; omega) (fun w8 => ?_) (fun w9 => ?_)
  · exact Rl_weak (C47  (by omega)) (True.intro)
  · refine l_iload_n rfl rfl ?_
    refine l_if_lt rfl rfl (by unfold rg; omega) (fun w10 => ?_) (fun w11 => ?_)
    · exact Rl_weak (C47  (by omega)) (True.intro)
    · refine l_aload_n rfl rfl ?_
      refine l_gfr rfl rfl rfl rfl rfl (hH.r 900 0 1 rfl) ?_
      refine l_aload_n rfl rfl ?_
      refine l_gfr rfl rfl rfl rfl rfl (hH.r 900 1 20 rfl) ?_
      refine l_gfr rfl rfl rfl rfl rfl (hH.r 20 2 21 rfl) ?_
      refine l_iload_n rfl rfl ?_
      refine l_iaload (n := 24) rfl rfl (by omega) (by omega) (by unfold rg; omega) ?_
      have w12 : 0 ≤ (Xi S 21 (((Xi S 23 ((0 : Int).toNat))).toNat)) ∧ (Xi S 21 (((Xi S 23 ((0 : Int).toNat))).toNat)) ≤ 15 := hH.c _ _
      refine l_iconst rfl ?_
      refine l_callV rfl rfl rfl (t_vo_isKind hH (Xi S 21 (((Xi S 23 ((0 : Int).toNat))).toNat)) 1 ⟨by omega, by omega⟩ ⟨by omega, by omega⟩ _) ?_
      rintro _ _ ⟨rfl, z13, rfl, w13, q41⟩
      show Rl _ _ _ _ _ [iv z13] _ _
      have h41 : isK S (Xi S 21 (Xi S 23 0).toNat) 1 = z13 := q41.symm
      refine l_if_ne rfl rfl (by unfold rg; omega) (fun w14 => ?_) (fun w15 => ?_)
      · refine l_aload_n rfl rfl ?_
        refine l_gfr rfl rfl rfl rfl rfl (hH.r 900 1 20 rfl) ?_
        refine l_iload_n rfl rfl ?_
        refine l_iload_n rfl rfl ?_
        refine l_callV rfl rfl rfl (t_wo_roomBehind hH (Xi S 23 ((0 : Int).toNat)) dir ⟨by omega, by omega⟩ ⟨by omega, by omega⟩ _) ?_
        rintro _ _ ⟨rfl, z16, rfl, w16, q55⟩
        show Rl _ _ _ _ _ [iv z16] _ _
        have g55 : goC S dir = z16 := go_1 (by omega) (by omega) (by rw [h41]; omega) q55
        refine l_istore_n rfl rfl rfl ?_
        refine l_iload_n rfl rfl ?_
        refine l_iconst rfl ?_
        refine l_icmp_ne rfl rfl (by unfold rg; omega) (by unfold rg; omega) (fun w17 => ?_) (fun w18 => ?_)
        · refine l_aload_n rfl rfl ?_
          refine l_gfr rfl rfl rfl rfl rfl (hH.r 900 1 20 rfl) ?_
          refine l_iconst rfl ?_
          refine l_iconst rfl ?_
          refine l_iload_n rfl rfl ?_
          refine l_callV rfl rfl rfl (t_wo_place__q hH 0 1 z16 ⟨by omega, by omega⟩ ⟨by omega, by omega⟩ ⟨by omega, by omega⟩ _) ?_
          rintro _ T1 ⟨hHT1, w20, rfl, e73⟩
          have hFT1 : FR md_tu_go__w S T1 := FR.tr hF w20 rfl
          show Rl _ _ _ _ _ [] _ _
          have K73 : True := trivial
          refine l_iconst rfl ?_
          refine l_ireturn rfl rfl ?_
          exact ⟨hHT1, hFT1, _, rfl, ⟨by omega, by omega⟩, (by first | (have t := K73; exact Or.inr ⟨by rw [g55]; omega, rfl, by rw [g55]; exact e73⟩) | (have t := g55; exact Or.inl ⟨by rw [g55]; omega, rfl, rfl⟩) | exact Or.inl ⟨go_0 (by omega), rfl, rfl⟩)⟩
        · refine l_iconst rfl ?_
          refine l_ireturn rfl rfl ?_
          exact ⟨hH, hF, _, rfl, ⟨by omega, by omega⟩, (by first | (have t := K73; exact Or.inr ⟨by rw [g55]; omega, rfl, by rw [g55]; exact e73⟩) | (have t := g55; exact Or.inl ⟨by rw [g55]; omega, rfl, rfl⟩) | exact Or.inl ⟨go_0 (by omega), rfl, rfl⟩)⟩
      · exact Rl_weak (C47  (by omega)) (True.intro)
def md_tu_succeeds__w : List rec := [(22, 23, 0, 100000), (23, 24, 0, 100000), (900, 901, 4, 5), (901, 902, 0, 100000)]
abbrev Q_tu_succeeds__w (S : sS) (action : Int) (noun : Int) : pst := fun r S1 => HI S1 ∧ FR md_tu_succeeds__w S S1 ∧ (∃ z : Int, r = some (iv z) ∧ (0 ≤ z ∧ z ≤ 1) ∧ (TX S1) ∧ ((S1, z) = scF S action noun))
set_option maxRecDepth 100000 in
theorem t_tu_succeeds__w {S : sS} (hH : HI S) (action : Int) (noun : Int) (haction : 0 ≤ action ∧ action ≤ 11) (hnoun : -1 ≤ noun ∧ noun ≤ 23) (hX : TX S) (hA : AK S) (hn : Xi S 19 action.toNat ≠ -1 → 0 ≤ noun) (hg : Xi S 19 action.toNat = -2 → noun ≤ 5) (d : Nat) : Mt lay0 (d + 3) m_tu_succeeds [.ref 900, iv action, iv noun] S (Q_tu_succeeds__w S action noun) := by
  refine Mt_R rfl rfl ?_
  have hF : FR md_tu_succeeds__w S S := FR.rf
  have hA0 := ak_all hA hn hg
  refine l_iload_n rfl rfl ?_
  refine l_tsw rfl rfl rfl rfl (by unfold rg; omega) (fun w1 => ?_) (fun ii tt hii w1 => ?_)
  · refine l_iconst rfl ?_
    refine l_ireturn rfl rfl ?_
    exact ⟨hH, hF, _, rfl, ⟨by omega, by omega⟩, (by first | assumption | exact TX_FR hF rfl hX), (by first | (have t := K34; exact sc_1 (by omega) f34) | (have t := K108; exact sc_4 (by omega) f108) | (have t := K101; exact sc_3 (by omega) (wl_s (by rw [← Q83, ← Q92]; exact e95) e101)) | (have t := K71; exact sc_2 (by omega) (Or.inr ⟨q40.1 (by omega), rfl, E71⟩)) | (have t := q40; exact sc_2 (by omega) (Or.inl ⟨q40.2 (by omega), rfl, rfl⟩)) | exact sc_5 (by omega))⟩
  · match ii, hii with
    | 0, hii =>
      cases hii
      have w2 : action = 1 := by simpa using w1
      refine l_aload_n rfl rfl ?_
      refine l_iload_n rfl rfl ?_
      refine l_callV rfl rfl rfl (t_tu_take__w hH noun ⟨by omega, by omega⟩ _) ?_
      rintro _ T1 ⟨hHT1, w4, z3, rfl, w3, f34⟩
      have hFT1 : FR md_tu_succeeds__w S T1 := FR.tr hF w4 rfl
      show Rl _ _ _ _ _ [iv z3] _ _
      have K34 : True := trivial
      refine l_ireturn rfl (retI_z (by omega)) ?_
      exact ⟨hHT1, hFT1, _, rfl, ⟨by omega, by omega⟩, (by first | assumption | exact TX_FR hFT1 rfl hX), (by first | (have t := K34; exact sc_1 (by omega) f34) | (have t := K108; exact sc_4 (by omega) f108) | (have t := K101; exact sc_3 (by omega) (wl_s (by rw [← Q83, ← Q92]; exact e95) e101)) | (have t := K71; exact sc_2 (by omega) (Or.inr ⟨q40.1 (by omega), rfl, E71⟩)) | (have t := q40; exact sc_2 (by omega) (Or.inl ⟨q40.2 (by omega), rfl, rfl⟩)) | exact sc_5 (by omega))⟩
    | 1, hii =>
      cases hii
      have w5 : action = 2 := by simpa using w1
      refine l_aload_n rfl rfl ?_
      refine l_iload_n rfl rfl ?_
      refine l_callV rfl rfl rfl (t_tu_playerHas__w hH noun ⟨by omega, by omega⟩ _) ?_
      rintro _ _ ⟨rfl, z6, rfl, w6, q40⟩
      show Rl _ _ _ _ _ [iv z6] _ _
      refine l_if_ne rfl rfl (by unfold rg; omega) (fun w7 => ?_) (fun w8 => ?_)
      · refine l_aload_n rfl rfl ?_
        refine l_gfr rfl rfl rfl rfl rfl (hH.r 900 1 20 rfl) ?_
        refine l_iload_n rfl rfl ?_
        refine l_aload_n rfl rfl ?_
        refine l_gfr rfl rfl rfl rfl rfl (hH.r 900 1 20 rfl) ?_
        refine l_gfr rfl rfl rfl rfl rfl (hH.r 20 3 22 rfl) ?_
        refine l_iconst rfl ?_
        refine l_iaload (n := 24) rfl rfl (by omega) (by omega) (by unfold rg; omega) ?_
        have w9 : 0 ≤ (Xi S 22 ((0 : Int).toNat)) ∧ (Xi S 22 ((0 : Int).toNat)) ≤ 5 := hH.c _ _
        have w10 : (Xi S 22 ((0 : Int).toNat)) = Xi S 22 0 := rfl
        refine l_aload_n rfl rfl ?_
        refine l_gfr rfl rfl rfl rfl rfl (hH.r 900 1 20 rfl) ?_
        refine l_gfr rfl rfl rfl rfl rfl (hH.r 20 4 23 rfl) ?_
        refine l_iconst rfl ?_
        refine l_iaload (n := 24) rfl rfl (by omega) (by omega) (by unfold rg; omega) ?_
        have w11 : -1 ≤ (Xi S 23 ((0 : Int).toNat)) ∧ (Xi S 23 ((0 : Int).toNat)) ≤ 23 := hH.c _ _
        have w12 : (Xi S 23 ((0 : Int).toNat)) = Xi S 23 0 := rfl
        refine l_callV rfl rfl rfl (t_wo_place__q hH noun (Xi S 22 ((0 : Int).toNat)) (Xi S 23 ((0 : Int).toNat)) ⟨by omega, by omega⟩ ⟨by omega, by omega⟩ ⟨by omega, by omega⟩ _) ?_
        rintro _ T2 ⟨hHT2, w14, rfl, e71⟩
        have hFT2 : FR md_tu_succeeds__w S T2 := FR.tr hF w14 rfl
        show Rl _ _ _ _ _ [] _ _
        have K71 : True := trivial
        have E71 : T2 = plO S noun (Xi S 22 0) (Xi S 23 0) := by rw [e71, show (0 : Int).toNat = 0 from rfl]
        refine l_iconst rfl ?_
        refine l_ireturn rfl rfl ?_
        exact ⟨hHT2, hFT2, _, rfl, ⟨by omega, by omega⟩, (by first | assumption | exact TX_FR hFT2 rfl hX), (by first | (have t := K34; exact sc_1 (by omega) f34) | (have t := K108; exact sc_4 (by omega) f108) | (have t := K101; exact sc_3 (by omega) (wl_s (by rw [← Q83, ← Q92]; exact e95) e101)) | (have t := K71; exact sc_2 (by omega) (Or.inr ⟨q40.1 (by omega), rfl, E71⟩)) | (have t := q40; exact sc_2 (by omega) (Or.inl ⟨q40.2 (by omega), rfl, rfl⟩)) | exact sc_5 (by omega))⟩
      · refine l_iconst rfl ?_
        refine l_ireturn rfl rfl ?_
        exact ⟨hH, hF, _, rfl, ⟨by omega, by omega⟩, (by first | assumption | exact TX_FR hF rfl hX), (by first | (have t := K34; exact sc_1 (by omega) f34) | (have t := K108; exact sc_4 (by omega) f108) | (have t := K101; exact sc_3 (by omega) (wl_s (by rw [← Q83, ← Q92]; exact e95) e101)) | (have t := K71; exact sc_2 (by omega) (Or.inr ⟨q40.1 (by omega), rfl, E71⟩)) | (have t := q40; exact sc_2 (by omega) (Or.inl ⟨q40.2 (by omega), rfl, rfl⟩)) | exact sc_5 (by omega))⟩
    | 2, hii =>
      cases hii
      have w15 : action = 3 := by simpa using w1
      refine l_aload_n rfl rfl ?_
      refine l_aload_n rfl rfl ?_
      refine l_gfr rfl rfl rfl rfl rfl (hH.r 900 1 20 rfl) ?_
      refine l_iload_n rfl rfl ?_
      refine l_iconst rfl ?_
      refine l_callV rfl rfl rfl (t_wo_valueOf hH noun 0 ⟨by omega, by omega⟩ ⟨by omega, by omega⟩ _) ?_
      rintro _ _ ⟨rfl, z16, rfl, w16, q83⟩
      show Rl _ _ _ _ _ [iv z16, .ref 900] _ _
      have Q83 : z16 = vof S noun 0 := by rw [q83, show (0 : Int).toNat = 0 from rfl]
      refine l_aload_n rfl rfl ?_
      refine l_gfr rfl rfl rfl rfl rfl (hH.r 900 1 20 rfl) ?_
      refine l_iload_n rfl rfl ?_
      refine l_iconst rfl ?_
      refine l_callV rfl rfl rfl (t_wo_lengthOf hH noun 0 ⟨by omega, by omega⟩ ⟨by omega, by omega⟩ _) ?_
      rintro _ _ ⟨rfl, z17, rfl, w17, q92⟩
      show Rl _ _ _ _ _ [iv z17, iv z16, .ref 900] _ _
      have Q92 : z17 = lof S noun 0 := by rw [q92, show (0 : Int).toNat = 0 from rfl]
      refine l_callV rfl rfl rfl (t_tu_writeText__w hH z16 z17 ⟨by omega, by omega⟩ ⟨by omega, by omega⟩ (txd hX hH (by assumption) (by assumption) (by omega) (by omega)) _) ?_
      rintro _ T3 ⟨hHT3, w19, rfl, e95⟩
      have hFT3 : FR md_tu_succeeds__w S T3 := FR.tr hF w19 rfl
      show Rl _ _ _ _ _ [] _ _
      refine l_aload_n rfl rfl ?_
      refine l_bipush rfl rfl ?_
      refine l_callV rfl rfl rfl (t_tu_write__w hHT3 10 ⟨by omega, by omega⟩ _) ?_
      rintro _ T4 ⟨hHT4, w21, rfl, e101⟩
      have hFT4 : FR md_tu_succeeds__w S T4 := FR.tr hFT3 w21 rfl
      show Rl _ _ _ _ _ [] _ _
      have K101 : True := trivial
      refine l_iconst rfl ?_
      refine l_ireturn rfl rfl ?_
      exact ⟨hHT4, hFT4, _, rfl, ⟨by omega, by omega⟩, (by first | assumption | exact TX_FR hFT4 rfl hX), (by first | (have t := K34; exact sc_1 (by omega) f34) | (have t := K108; exact sc_4 (by omega) f108) | (have t := K101; exact sc_3 (by omega) (wl_s (by rw [← Q83, ← Q92]; exact e95) e101)) | (have t := K71; exact sc_2 (by omega) (Or.inr ⟨q40.1 (by omega), rfl, E71⟩)) | (have t := q40; exact sc_2 (by omega) (Or.inl ⟨q40.2 (by omega), rfl, rfl⟩)) | exact sc_5 (by omega))⟩
    | 3, hii =>
      cases hii
      have w22 : action = 4 := by simpa using w1
      refine l_aload_n rfl rfl ?_
      refine l_iload_n rfl rfl ?_
      refine l_callV rfl rfl rfl (t_tu_go__w hH noun ⟨by omega, by omega⟩ _) ?_
      rintro _ T5 ⟨hHT5, w24, z23, rfl, w23, f108⟩
      have hFT5 : FR md_tu_succeeds__w S T5 := FR.tr hF w24 rfl
      show Rl _ _ _ _ _ [iv z23] _ _
      have K108 : True := trivial
      refine l_ireturn rfl (retI_z (by omega)) ?_
      exact ⟨hHT5, hFT5, _, rfl, ⟨by omega, by omega⟩, (by first | assumption | exact TX_FR hFT5 rfl hX), (by first | (have t := K34; exact sc_1 (by omega) f34) | (have t := K108; exact sc_4 (by omega) f108) | (have t := K101; exact sc_3 (by omega) (wl_s (by rw [← Q83, ← Q92]; exact e95) e101)) | (have t := K71; exact sc_2 (by omega) (Or.inr ⟨q40.1 (by omega), rfl, E71⟩)) | (have t := q40; exact sc_2 (by omega) (Or.inl ⟨q40.2 (by omega), rfl, rfl⟩)) | exact sc_5 (by omega))⟩
    | n + 4, hii => exact absurd hii (by simp)
def md_tu_applies__v : List rec := [(997, 1005, 0, 100000), (1006, 1014, 0, 100000)]
abbrev Q_tu_applies__v (S : sS) (ri : Nat) (action : Int) (noun : Int) : pst := fun r S1 => HI S1 ∧ FR md_tu_applies__v S S1 ∧ (∃ z : Int, r = some (iv z) ∧ (0 ≤ z ∧ z ≤ 1) ∧ (z = 1 → Xi S (248 + ri) 1 = action) ∧ (z = apC (zcS S) ri action noun))
set_option maxRecDepth 100000 in
theorem t_tu_applies__v {S : sS} (hH : HI S) (ri : Nat) (action : Int) (noun : Int) (hri : ri < 24) (haction : -1 ≤ action ∧ action ≤ 11) (hnoun : -1 ≤ noun ∧ noun ≤ 23) (hi : (ri : Int) < Xi S 246 2) (hR : RUL S) (hD : DEF S) (hX : TX S) (hn : 0 ≤ action → Xi S 19 action.toNat ≠ -1 → 0 ≤ noun) (d : Nat) : Mt lay0 (d + 27) m_tu_applies [.ref 900, .ref (248 + ri), iv action, iv noun] S (Q_tu_applies__v S ri action noun) := by
  refine Mt_R rfl rfl ?_
  have hF : FR md_tu_applies__v S S := FR.rf
  have w1 : 0 ≤ Xi S 246 2 ∧ Xi S 246 2 ≤ 24 := hH.c _ _
  have hrb := RUL_b hR hi
  have e1 : Xi S (248 + ri) (1 : Int).toNat = Xi S (248 + ri) 1 := rfl
  have e3 : Xi S (248 + ri) (3 : Int).toNat = Xi S (248 + ri) 3 := rfl
  have e4 : Xi S (248 + ri) (4 : Int).toNat = Xi S (248 + ri) 4 := rfl
  have e5 : Xi S (248 + ri) (5 : Int).toNat = Xi S (248 + ri) 5 := rfl
  have e7 : Xi S (248 + ri) (7 : Int).toNat = Xi S (248 + ri) 7 := rfl
  have e6 : Xi S (248 + ri) (6 : Int).toNat = Xi S (248 + ri) 6 := rfl
  have hkn : Xi S (248 + ri) 1 = action → Xi S (248 + ri) 3 ≠ -1 → 0 ≤ noun := fun e h => RUL_k hR hi (rN_n hn e) h
  have p4 := ruc4 hH hri
  have p5 := ruc5 hH hri
  have p6 := ruc6 hH hri
  have e2 : Xi S (248 + ri) (2 : Int).toNat = Xi S (248 + ri) 2 := rfl
  have C42 : (apC (zcS S) ri action noun = 0) → Rl lay0 (d + 26) m_tu_applies 42 [] [] S (Q_tu_applies__v S ri action noun) := by
    intro g42
    refine l_iconst rfl ?_
    refine l_ireturn rfl rfl ?_
    exact ⟨hH, hF, _, rfl, ⟨by omega, by omega⟩, (by first | assumption | omega), (by first | (have t := Z82; rw [g47]; exact (alT_0 (by omega) (by show hoC _ _ _ noun = 0; rw [← Q76]; omega)).symm) | (have t := g47; rw [g47]; exact (alT_e (by omega)).symm) | exact g42.symm)⟩
  have C21 : (Xi S (248 + ri) 1 = action) → (Xi S (248 + ri) 2 = -1 ∨ Xi S (248 + ri) 2 = noun) → Rl lay0 (d + 26) m_tu_applies 21 [(0, .ref 900), (1, .ref (248 + ri)), (3, iv noun)] [] S (Q_tu_applies__v S ri action noun) := by
    intro w2 w3
    have C44 : (Xi S (248 + ri) 1 = action) → (Xi S (248 + ri) 2 = -1 ∨ Xi S (248 + ri) 2 = noun) → (Xi S (248 + ri) 3 = -1 ∨ isK S (Xi S 21 noun.toNat) (Xi S (248 + ri) 3) ≠ 0) → Rl lay0 (d + 26) m_tu_applies 44 [(0, .ref 900), (1, .ref (248 + ri)), (3, iv noun)] [] S (Q_tu_applies__v S ri action noun) := by
      intro w4 w5 k44
      have C47 : ∀ (n47 : Nat) (T1 : sS) (_ : HI T1) (_ : FR md_tu_applies__v S T1) (v4 : Int), (0 ≤ v4 ∧ v4 ≤ 11) → (Xi S (248 + ri) 1 = action) → (apC (zcS S) ri action noun = alT (fun i => hoC (ahC (zcS S) 8) (zcS S) ((Xi S (248 + ri) 7).toNat + i) noun) (Xi S (248 + ri) 4 + Xi S (248 + ri) 5 - v4).toNat v4.toNat) → n47 = (12 - v4).toNat → Rl lay0 (d + 26) m_tu_applies 47 [(0, .ref 900), (1, .ref (248 + ri)), (3, iv noun), (4, iv v4)] [] T1 (Q_tu_applies__v S ri action noun) := by
        intro n47
        induction n47 using Nat.strongRecOn with
        | ind n47 ih47 =>
          intro T1 hHT1 hFT1 v4 w6 w7 g47 hm47
          have w8 : Xi T1 246 2 = Xi S 246 2 := hFT1.x _ _ rfl
          refine l_iload rfl rfl ?_
          have hq4 : Xi T1 (248 + ri) 4 = Xi S (248 + ri) 4 := FR_ru hFT1 rfl hri
          have hq5 : Xi T1 (248 + ri) 5 = Xi S (248 + ri) 5 := FR_ru hFT1 rfl hri
          have hq7 : Xi T1 (248 + ri) 7 = Xi S (248 + ri) 7 := FR_ru hFT1 rfl hri
          refine l_aload_n rfl rfl ?_
          refine l_iconst rfl ?_
          refine l_iaload (n := 8) rfl (lay_248 (by omega)) (by omega) (by omega) (by unfold rg; omega) ?_
          have w9 : 0 ≤ (Xi T1 (248 + ri) ((4 : Int).toNat)) ∧ (Xi T1 (248 + ri) ((4 : Int).toNat)) ≤ 5 := ruc4 hHT1 (by omega)
          have w10 : (Xi T1 (248 + ri) ((4 : Int).toNat)) = Xi T1 (248 + ri) 4 := rfl
          refine l_aload_n rfl rfl ?_
          refine l_iconst rfl ?_
          refine l_iaload (n := 8) rfl (lay_248 (by omega)) (by omega) (by omega) (by unfold rg; omega) ?_
          have w11 : 0 ≤ (Xi T1 (248 + ri) ((5 : Int).toNat)) ∧ (Xi T1 (248 + ri) ((5 : Int).toNat)) ≤ 6 := ruc5 hHT1 (by omega)
          have w12 : (Xi T1 (248 + ri) ((5 : Int).toNat)) = Xi T1 (248 + ri) 5 := rfl
          refine l_iadd rfl ?_
          refine l_icmp_ge rfl rfl (by unfold rg; omega) (by unfold rg; omega) (fun w13 => ?_) (fun w14 => ?_)
          · refine l_iconst rfl ?_
            refine l_ireturn rfl rfl ?_
            exact ⟨hHT1, hFT1, _, rfl, ⟨by omega, by omega⟩, (by first | assumption | omega), (by first | (have t := Z82; rw [g47]; exact (alT_0 (by omega) (by show hoC _ _ _ noun = 0; rw [← Q76]; omega)).symm) | (have t := g47; rw [g47]; exact (alT_e (by omega)).symm) | exact g42.symm)⟩
          · refine l_aload_n rfl rfl ?_
            refine l_aload_n rfl rfl ?_
            refine l_gfr rfl rfl rfl rfl rfl (hHT1.r 900 2 246 rfl) ?_
            refine l_aload_n rfl rfl ?_
            refine l_bipush rfl rfl ?_
            refine l_iaload (n := 8) rfl (lay_248 (by omega)) (by omega) (by omega) (by unfold rg; omega) ?_
            have w15 : 0 ≤ (Xi T1 (248 + ri) ((7 : Int).toNat)) ∧ (Xi T1 (248 + ri) ((7 : Int).toNat)) ≤ 200000 := ruc7 hHT1 (by omega)
            have w16 : (Xi T1 (248 + ri) ((7 : Int).toNat)) = Xi T1 (248 + ri) 7 := rfl
            refine l_iload rfl rfl ?_
            refine l_iadd rfl ?_
            refine l_callV rfl rfl rfl (t_bo_clauseAt hHT1 ((Xi T1 (248 + ri) ((7 : Int).toNat)) + v4) ⟨by omega, by omega⟩ _) ?_
            rintro _ _ ⟨rfl, z18, rfl, w18, w17⟩
            show Rl _ _ _ _ _ [.ref (276 + z18), .ref 900] _ _
            refine l_iload_n rfl rfl ?_
            refine l_iconst rfl ?_
            refine l_callV rfl rfl rfl (t_tu_holds__q hHT1 z18 noun 0 (by omega) ⟨by omega, by omega⟩ ⟨by omega, by omega⟩ (TSok_f hH hFT1 rfl rfl rfl (by omega) (RUL_ts (k := v4) hR hi (rN_n hn (by omega)) (by omega) (by omega) (by omega))) (by first | assumption | exact (DEF_FR hH hFT1 rfl rfl (by assumption : DEF S))) (by first | assumption | exact (TX_FR hFT1 rfl (by assumption : TX S))) (cap_0) _) ?_
            rintro _ T2 ⟨hHT2, w22, z21, rfl, w21, q76, w19, w20⟩
            have hFT2 : FR md_tu_applies__v S T2 := FR.tr hFT1 w22 rfl
            show Rl _ _ _ _ _ [iv z21] _ _
            have Q76 : z21 = hoC (ahC (zcS S) 8) (zcS S) ((Xi S (248 + ri) 7).toNat + v4.toNat) noun := by rw [q76, zc_of (show FR zcM S _ from hFT1), show (8 - (0 : Int)).toNat = 8 by rfl]; congr 1; omega
            refine l_if_ne rfl rfl (by unfold rg; omega) (fun w23 => ?_) (fun w24 => ?_)
            · refine l_iinc rfl rfl rfl rfl ?_
              refine l_goto rfl rfl ?_
              exact Rl_weak (ih47 _ (by omega) T2 hHT2 hFT2 ((v4 + 1)) (by omega) (by omega) (by first | (have t := Q76; exact g47.trans (alT_s (by omega) (by show hoC _ _ _ noun ≠ 0; rw [← Q76]; omega))) | exact zap_1 hri (by omega) (by omega) k44) rfl) (And.intro rfl (And.intro rfl (And.intro rfl (And.intro rfl (True.intro)))))
            · refine l_iconst rfl ?_
              have Z82 : True := trivial
              refine l_ireturn rfl rfl ?_
              exact ⟨hHT2, hFT2, _, rfl, ⟨by omega, by omega⟩, (by first | assumption | omega), (by first | (have t := Z82; rw [g47]; exact (alT_0 (by omega) (by show hoC _ _ _ noun = 0; rw [← Q76]; omega)).symm) | (have t := g47; rw [g47]; exact (alT_e (by omega)).symm) | exact g42.symm)⟩
      refine l_iconst rfl ?_
      refine l_istore rfl rfl rfl ?_
      exact Rl_weak (C47 _ S hH hF (0) (by omega) (by omega) (by first | (have t := Q76; exact g47.trans (alT_s (by omega) (by show hoC _ _ _ noun ≠ 0; rw [← Q76]; omega))) | exact zap_1 hri (by omega) (by omega) k44) rfl) (And.intro rfl (And.intro rfl (And.intro rfl (And.intro rfl (True.intro)))))
    refine l_aload_n rfl rfl ?_
    refine l_iconst rfl ?_
    refine l_iaload (n := 8) rfl (lay_248 (by omega)) (by omega) (by omega) (by unfold rg; omega) ?_
    have w25 : -1 ≤ (Xi S (248 + ri) ((3 : Int).toNat)) ∧ (Xi S (248 + ri) ((3 : Int).toNat)) ≤ 15 := ruc3 hH (by omega)
    have w26 : (Xi S (248 + ri) ((3 : Int).toNat)) = Xi S (248 + ri) 3 := rfl
    refine l_iconst rfl ?_
    refine l_icmp_eq rfl rfl (by unfold rg; omega) (by unfold rg; omega) (fun w27 => ?_) (fun w28 => ?_)
    · exact Rl_weak (C44  (by omega) (by omega) (by first | exact Or.inl (by omega) | exact Or.inr (by rw [← e3, ← q36]; omega))) (And.intro rfl (And.intro rfl (And.intro rfl (True.intro))))
    · refine l_aload_n rfl rfl ?_
      refine l_gfr rfl rfl rfl rfl rfl (hH.r 900 1 20 rfl) ?_
      refine l_iload_n rfl rfl ?_
      refine l_aload_n rfl rfl ?_
      refine l_iconst rfl ?_
      refine l_iaload (n := 8) rfl (lay_248 (by omega)) (by omega) (by omega) (by unfold rg; omega) ?_
      refine l_callV rfl rfl rfl (t_wo_isA hH noun (Xi S (248 + ri) ((3 : Int).toNat)) ⟨by omega, by omega⟩ ⟨by omega, by omega⟩ _) ?_
      rintro _ _ ⟨rfl, z29, rfl, w29, q36⟩
      show Rl _ _ _ _ _ [iv z29] _ _
      refine l_if_ne rfl rfl (by unfold rg; omega) (fun w30 => ?_) (fun w31 => ?_)
      · exact Rl_weak (C44  (by omega) (by omega) (by first | exact Or.inl (by omega) | exact Or.inr (by rw [← e3, ← q36]; omega))) (And.intro rfl (And.intro rfl (And.intro rfl (True.intro))))
      · exact Rl_weak (C42  (by first | exact zap_0 hri (by omega) | exact zap_0 hri (Or.inr (Or.inr ⟨by omega, by rw [← e3, ← q36]; omega⟩)))) (True.intro)
  refine l_aload_n rfl rfl ?_
  refine l_iconst rfl ?_
  refine l_iaload (n := 8) rfl (lay_248 (by omega)) (by omega) (by omega) (by unfold rg; omega) ?_
  have w32 : -1 ≤ (Xi S (248 + ri) ((1 : Int).toNat)) ∧ (Xi S (248 + ri) ((1 : Int).toNat)) ≤ 11 := ruc1 hH (by omega)
  have w33 : (Xi S (248 + ri) ((1 : Int).toNat)) = Xi S (248 + ri) 1 := rfl
  refine l_iload_n rfl rfl ?_
  refine l_icmp_ne rfl rfl (by unfold rg; omega) (by unfold rg; omega) (fun w34 => ?_) (fun w35 => ?_)
  · exact Rl_weak (C42  (by first | exact zap_0 hri (by omega) | exact zap_0 hri (Or.inr (Or.inr ⟨by omega, by rw [← e3, ← q36]; omega⟩)))) (True.intro)
  · refine l_aload_n rfl rfl ?_
    refine l_iconst rfl ?_
    refine l_iaload (n := 8) rfl (lay_248 (by omega)) (by omega) (by omega) (by unfold rg; omega) ?_
    have w36 : -1 ≤ (Xi S (248 + ri) ((2 : Int).toNat)) ∧ (Xi S (248 + ri) ((2 : Int).toNat)) ≤ 23 := ruc2 hH (by omega)
    have w37 : (Xi S (248 + ri) ((2 : Int).toNat)) = Xi S (248 + ri) 2 := rfl
    refine l_iconst rfl ?_
    refine l_icmp_eq rfl rfl (by unfold rg; omega) (by unfold rg; omega) (fun w38 => ?_) (fun w39 => ?_)
    · exact Rl_weak (C21  (by omega) (by omega)) (And.intro rfl (And.intro rfl (And.intro rfl (True.intro))))
    · refine l_aload_n rfl rfl ?_
      refine l_iconst rfl ?_
      refine l_iaload (n := 8) rfl (lay_248 (by omega)) (by omega) (by omega) (by unfold rg; omega) ?_
      refine l_iload_n rfl rfl ?_
      refine l_icmp_ne rfl rfl (by unfold rg; omega) (by unfold rg; omega) (fun w40 => ?_) (fun w41 => ?_)
      · exact Rl_weak (C42  (by first | exact zap_0 hri (by omega) | exact zap_0 hri (Or.inr (Or.inr ⟨by omega, by rw [← e3, ← q36]; omega⟩)))) (True.intro)
      · exact Rl_weak (C21  (by omega) (by omega)) (And.intro rfl (And.intro rfl (And.intro rfl (True.intro))))
def md_tu_applies__w : List rec := [(997, 1005, 0, 100000), (1006, 1014, 0, 100000)]
abbrev Q_tu_applies__w (S : sS) (ri : Nat) (action : Int) (noun : Int) : pst := fun r S1 => HI S1 ∧ FR md_tu_applies__w S S1 ∧ (∃ z : Int, r = some (iv z) ∧ (0 ≤ z ∧ z ≤ 1) ∧ (z = 1 → Xi S (248 + ri) 1 = action) ∧ (z = apC (zcS S) ri action noun) ∧ (S1 = apS S ri action noun))
theorem t_tu_applies__w {S : sS} (hH : HI S) (ri : Nat) (action : Int) (noun : Int) (hri : ri < 24) (haction : -1 ≤ action ∧ action ≤ 11) (hnoun : -1 ≤ noun ∧ noun ≤ 23) (hi : (ri : Int) < Xi S 246 2) (hR : RUL S) (hD : DEF S) (hX : TX S) (hn : 0 ≤ action → Xi S 19 action.toNat ≠ -1 → 0 ≤ noun) (d : Nat) : Mt lay0 (d + 27) m_tu_applies [.ref 900, .ref (248 + ri), iv action, iv noun] S (Q_tu_applies__w S ri action noun) := by
  obtain ⟨N, r, S1, hr, h1, h2, z, h3, h4, h5, h6⟩ := t_tu_applies__v hH ri action noun hri haction hnoun hi hR hD hX hn d
  exact ⟨N, r, S1, hr, h1, h2, z, h3, h4, h5, h6, aps_e h2 (hr N (Nat.le_refl _))⟩
end
