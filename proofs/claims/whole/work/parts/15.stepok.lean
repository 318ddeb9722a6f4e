/-! the JVM follows one instruction of the small machine -/
theorem bif_s {α : Type} {b : Bool} {x : Option α} {y : α} (h : (bif b then x else none) = some y) : b = true ∧ x = some y := by
  cases b with
  | true => exact ⟨rfl, h⟩
  | false => exact nomatch (show (none : Option α) = some y from h)
theorem lgt_ix {ad : Nat → Nat} : ∀ {lv : List (Nat × Value)} {i : Nat} {v : Value}, lgt lv i = some v → ∃ k : Nat, (lv.map (trL ad))[k]? = some (i, trV ad v) := by
  intro lv
  induction lv with
  | nil => intro i v h; simp [lgt] at h
  | cons q r ih =>
    intro i v h
    obtain ⟨k, x⟩ := q
    unfold lgt at h
    cases hk : Nat.beq k i with
    | true =>
      rw [hk] at h
      have e : x = v := Option.some.inj h
      have e2 : k = i := Nat.eq_of_beq_eq_true hk
      subst e; subst e2
      exact ⟨0, rfl⟩
    | false =>
      rw [hk] at h
      obtain ⟨n, hn⟩ := ih h
      exact ⟨n + 1, hn⟩
/-- what a field's link gives -/
def FO (own : String) (ix ci j : Nat) (b : Bool) : Prop := ∃ (C : String) (T : u_T) (N : Nat), classes[ci]? = some (C, T, N) ∧ (∀ w ∈ u_ws C T N, w ∈ lw_good) ∧ nT ci = N ∧ j < N ∧ (∀ k, k < N → parseFieldDescriptor (T k).2.2.1 = some (fT ci k)) ∧ (∀ a, a < N → ∀ b, b < N → a ≠ b → (T a).2.1 ≠ (T b).2.1) ∧ (match b with
  | false => Cond.fieldLink own ix (T j).1 (T j).2.1 (T j).2.2.1 ∈ lw_good
  | true => ∃ host, Cond.fieldLinkNest own ix (T j).1 (T j).2.1 (T j).2.2.1 host ∈ sN)
def FOk (own : String) (ix ci j : Nat) (b : Bool) : Prop := (ci < 90 ∧ FO own ix ci j b) ∨ (ci = 90 ∧ j = 0 ∧ Cond.fieldLink own ix "java/lang/String" "value" "[B" ∈ lw_good) ∨ (ci = 90 ∧ j = 1 ∧ Cond.fieldLink own ix "java/lang/String" "coder" "B" ∈ lw_good) ∨ (ci = 91 ∧ Cond.fieldLink own ix "java/lang/String" "COMPACT_STRINGS" "Z" ∈ lw_good)
theorem FOk.own {own : String} {ix ci j : Nat} {b : Bool} (h : FOk own ix ci j b) (hc : Nat.blt ci 90 = true) : FO own ix ci j b := by
  have hc : ci < 90 := Nat.le_of_ble_eq_true hc
  rcases h with h | ⟨h, -⟩ | ⟨h, -⟩ | ⟨h, -⟩
  · exact h.2
  · omega
  · omega
  · omega
def COk (own : String) (ix : Nat) (v : Value) : Prop := match v with
  | .int x => Cond.constant own ix x ∈ lw_good
  | .long x => Cond.constantLong own ix x ∈ lw_good
  | .ref k => ∃ (i : Nat) (q : String × Nat × String × List Int32), strT[i]? = some q ∧ k = SB + i ∧ q.1 = own ∧ q.2.1 = ix
  | _ => True
section SO
variable {p : Program} {l : Launch} {e : Env} {R : Room} {s : State} {m : MethodId} {args : Array Value} {below : List Frame} {meth : Method} {c : Code} {Q : State → Prop}
variable {cc : ByteArray} {nL : Nat} {D : va_G} {lay : Nat → Nat × Nat} {nc : Nat} {ad ca : Nat → Nat} {own : String}
def OkP (p : Program) (l : Launch) (e : Env) (R : Room) (s : State) (m : MethodId) (args : Array Value) (below : List Frame) (meth : Method) (c : Code) (D : va_G) (lay : Nat → Nat × Nat) (nc : Nat) (ad ca : Nat → Nat) (nL cells slots : Nat) (Q : State → Prop) (pc : Nat) (lv : List (Nat × Value)) (st : List Value) (S : sS) : Prop :=
  ∀ (ls : Array Slot) (H : Heap) (locs : List Loc), lv_has ls nL (lv.map (trL ad)) → sB D lay nc ad ca S s H locs → W p l e R s m args below meth c H locs cells slots Q (F0 m pc ls (st.map (trV ad)))
variable {H : Heap} {locs : List Loc} {cells slots : Nat} {pc : Nat} {ls : Array Slot} {rest : List Value} {S : sS}
theorem w_if (hx : p.tables.exec = Jvm.exec) (hb : c.code = cc) {k : Jvm.ClassFile.Cond} {off : Int} {t : Nat} {x : Int32} (hdg : decode cc pc = .ok (.ifCond k off, 3)) (ht : (pc : Int) + off = (t : Int)) (kt : cnd k x 0 = true → W p l e R s m args below meth c H locs cells slots Q (F0 m t ls rest)) (kf : cnd k x 0 = false → W p l e R s m args below meth c H locs cells slots Q (F0 m (pc + 3) ls rest)) : W p l e R s m args below meth c H locs cells slots Q (F0 m pc ls (.int x :: rest)) := by
  cases k with
  | eq => exact lv_if_eq hx hb hdg ht (fun h => kt (decide_eq_true h)) (fun h => kf (decide_eq_false h))
  | ne => exact lv_if_ne hx hb hdg ht (fun h => kt (decide_eq_true h)) (fun h => kf (decide_eq_false (fun q => q h)))
  | lt => exact lv_if_lt hx hb hdg ht (fun h => kt (decide_eq_true h)) (fun h => kf (decide_eq_false h))
  | ge => exact lv_if_ge hx hb hdg ht (fun h => kt (decide_eq_true h)) (fun h => kf (decide_eq_false h))
  | gt => exact lv_if_gt hx hb hdg ht (fun h => kt (decide_eq_true h)) (fun h => kf (decide_eq_false h))
  | le => exact lv_if_le hx hb hdg ht (fun h => kt (decide_eq_true h)) (fun h => kf (decide_eq_false h))
theorem w_icmp (hx : p.tables.exec = Jvm.exec) (hb : c.code = cc) {k : Jvm.ClassFile.Cond} {off : Int} {t : Nat} {x y : Int32} (hdg : decode cc pc = .ok (.if_icmp k off, 3)) (ht : (pc : Int) + off = (t : Int)) (kt : cnd k x y = true → W p l e R s m args below meth c H locs cells slots Q (F0 m t ls rest)) (kf : cnd k x y = false → W p l e R s m args below meth c H locs cells slots Q (F0 m (pc + 3) ls rest)) : W p l e R s m args below meth c H locs cells slots Q (F0 m pc ls (.int y :: .int x :: rest)) := by
  cases k with
  | eq => exact lv_icmp_eq hx hb hdg ht (fun h => kt (decide_eq_true h)) (fun h => kf (decide_eq_false h))
  | ne => exact lv_icmp_ne hx hb hdg ht (fun h => kt (decide_eq_true h)) (fun h => kf (decide_eq_false (fun q => q h)))
  | lt => exact lv_icmp_lt hx hb hdg ht (fun h => kt (decide_eq_true h)) (fun h => kf (decide_eq_false h))
  | ge => exact lv_icmp_ge hx hb hdg ht (fun h => kt (decide_eq_true h)) (fun h => kf (decide_eq_false h))
  | gt => exact lv_icmp_gt hx hb hdg ht (fun h => kt (decide_eq_true h)) (fun h => kf (decide_eq_false h))
  | le => exact lv_icmp_le hx hb hdg ht (fun h => kt (decide_eq_true h)) (fun h => kf (decide_eq_false h))
/-- a reference is put into a field -/
theorem r_putR (G : CallFix p m c cc nL s args lw_good own) (B : sB D lay nc ad ca S s H locs) {index k ci j N : Nat} {C : String} {T : u_T} {ty0 : Nat → FieldType} (hty : ∀ k, k < N → parseFieldDescriptor (T k).2.2.1 = some (ty0 k)) (hnm : ∀ a, a < N → ∀ b, b < N → a ≠ b → (T a).2.1 ≠ (T b).2.1) (hc : classes[ci]? = some (C, T, N)) (hi : ∀ w ∈ u_ws C T N, w ∈ lw_good) (hN : nT ci = N) (hl : lay k = (0, ci)) (hk : k < nc) (hj : j < N) (hf : Cond.fieldLink own index (T j).1 (T j).2.1 (T j).2.2.1 ∈ lw_good) (hfin : (T j).2.2.2 = false) {v : Option Nat} (hv : sV ad (fT ci j) (S.1 k j) (S.2.1 k j) v = va_rf (v.map ad)) (hn : narrow (ty0 j) (va_rf (v.map ad)) = va_rf (v.map ad)) (hfit : fits (ty0 j) (va_rf (v.map ad)) = true) (hdg : decode cc pc = .ok (.putfield index, 3))
    (kk : ∀ (H : Heap) (locs : List Loc), sB D lay nc ad ca (uR S k j v) s H locs → W p l e R s m args below meth c H locs cells slots Q (F0 m (pc + 3) ls rest)) : W p l e R s m args below meth c H locs cells slots Q (F0 m pc ls (va_rf (v.map ad) :: .ref (ad k) :: rest)) := by
  have he : (sW lay nc ad ca S)[k]? = some (ad k, .inr (ci, sO ad S ci k)) := by rw [sW_at hk, sE_ob hl]
  refine va_put (D := D) (ty := ty0 j) G.1 G.2.1 G.2.2.2.2 hi ty0 hty hnm G.2.2.2.1 B.1 B.2.1 B.2.2.1 B.2.2.2.1 k he hc j hj (G.2.2.2.2 _ hf) (fun _ h9 => h9) hfin (hty j hj) hn hfit (by unfold sO; simpa [hN] using hj) hdg (fun H1 locs1 hP hD hS => ?_)
  have e := sW_set (lay := lay) (nc := nc) (ad := ad) (ca := ca) (S := S) (S' := uR S k j v) hk (e := .inr (ci, (sO ad S ci k).set j (va_rf (v.map ad)))) (by rw [sE_ob hl, sO_uR hv]) sE_uR
  rw [e] at hP hD
  exact kk H1 locs1 ⟨B.1, hP, hD, hS, B.2.2.2.2⟩
/-- a reference out of an array of references -/
theorem r_aald (G : CallFix p m c cc nL s args lw_good own) (B : sB D lay nc ad ca S s H locs) {k n : Nat} (hl : lay k = (5, n) ∨ lay k = (6, n)) (hk : k < nc) {i : Int32} (hin : vp_in i n) (hdg : decode cc pc = .ok (.aaload, 1))
    (kk : W p l e R s m args below meth c H locs cells slots Q (F0 m (pc + 1) ls (va_rf ((S.2.2 k i.toNatClampNeg).map ad) :: rest))) : W p l e R s m args below meth c H locs cells slots Q (F0 m pc ls (.int i :: .ref (ad k) :: rest)) := by
  have hlt : i.toNatClampNeg < n := Nat.not_le.mp fun q => hin (Or.inr q)
  rcases hl with hl | hl
  · have ha := B.2.1 k _ (by rw [sW_at hk, sE_rs hl])
    exact W.aald (v := va_rf ((S.2.2 k i.toNatClampNeg).map ad)) (ty := .array .int) G.1 G.2.1 ha ((B.1.2 4 _ rfl).1 n (fun j => va_rf ((S.2.2 k j).map ad))) rfl (fun q => by cases q) (by show ¬ (i < 0 ∨ (arrV _ _ _).slots.size ≤ _); rw [arrV_size]; exact hin) (by show (arrV _ _ _).slots[_]? = _; rw [arrV_read _ _ hlt]) rfl rfl hdg kk
  · have ha := B.2.1 k _ (by rw [sW_at hk, sE_cs hl])
    exact W.aald (v := va_rf ((S.2.2 k i.toNatClampNeg).map ad)) (ty := .object "RuleSentences$Clause") G.1 G.2.1 ha ((B.1.2 5 _ rfl).1 n (fun j => va_rf ((S.2.2 k j).map ad))) rfl (fun q => by cases q) (by show ¬ (i < 0 ∨ (arrV _ _ _).slots.size ≤ _); rw [arrV_size]; exact hin) (by show (arrV _ _ _).slots[_]? = _; rw [arrV_read _ _ hlt]) rfl rfl hdg kk
theorem r_alen (G : CallFix p m c cc nL s args lw_good own) (B : sB D lay nc ad ca S s H locs) {k : Nat} (h1 : 1 ≤ (lay k).1) (h2 : (lay k).1 ≤ 6) (hk : k < nc) (hdg : decode cc pc = .ok (.arraylength, 1))
    (kk : W p l e R s m args below meth c H locs cells slots Q (F0 m (pc + 1) ls (.int (Int32.ofNat (lay k).2) :: rest))) : W p l e R s m args below meth c H locs cells slots Q (F0 m pc ls (.ref (ad k) :: rest)) := by
  rcases hz : lay k with ⟨t, n⟩
  rw [hz] at h1 h2 kk
  rcases (show t = 1 ∨ t = 2 ∨ t = 3 ∨ t = 4 ∨ t = 5 ∨ t = 6 by omega) with rfl | rfl | rfl | rfl | rfl | rfl
  · exact va_alen (D := D) G.1 G.2.1 B.1 B.2.1 k 0 (by rw [sW_at hk, sE_is hz]) rfl rfl hdg kk
  · exact va_alen (D := D) G.1 G.2.1 B.1 B.2.1 k 1 (by rw [sW_at hk, sE_ls hz]) rfl rfl hdg kk
  · exact va_alen (D := D) G.1 G.2.1 B.1 B.2.1 k 2 (by rw [sW_at hk, sE_bs hz]) rfl rfl hdg kk
  · exact va_alen (D := D) G.1 G.2.1 B.1 B.2.1 k 3 (by rw [sW_at hk, sE_zs hz]) rfl rfl hdg kk
  · exact va_alen (D := D) G.1 G.2.1 B.1 B.2.1 k 4 (by rw [sW_at hk, sE_rs hz]) rfl rfl hdg kk
  · exact va_alen (D := D) G.1 G.2.1 B.1 B.2.1 k 5 (by rw [sW_at hk, sE_cs hz]) rfl rfl hdg kk
end SO



