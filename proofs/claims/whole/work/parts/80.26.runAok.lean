/-! CONSTRUCTORS AND THE LAW'S BODY: run with new cells, and that the JVM follows -/
abbrev calA : Type := mT → List Value → sS → Nat → Nat → Option (Option Value × sS × Nat × Nat)
def runA (lay : Nat → Nat × Nat) (fL : Nat → Option (Nat × Nat × Bool)) (cL : Nat → Option Value) (kL : Nat → Option (Nat × mT × Nat)) (cC : Nat → Option Nat) (kI : Nat → Option (Nat × mT × Nat)) (ow nL : Nat) (ret : Option FieldType) (sc : Bool) (L : Nat) (xs : Nat → Int32) (callN : Nat → cal) (callA : calA) (code : List (Nat × Instr)) : Nat → Nat → Nat → Nat → List (Nat × Value) → List Value → sS → Option (Option Value × sS × Nat × Nat)
  | 0, _, _, _, _, _, _ => none
  | F + 1, n, ss, pc, lv, st, S => match lk code pc with
    | none => none
    | some i => match i with
      | .invokespecial ix => (match kI ix with
        | some (7, _, _) => (match st with
          | .ref _ :: r => bif Nat.ble (r.map (fun v => v.category)).sum 8 then runA lay fL cL kL cC kI ow nL ret sc L xs callN callA code F n ss (pc + 3) lv r S else none
          | _ => none)
        | some (5, md, na) => bif cOk (layN lay n) md.2.2.2.2.1 na st then (match callA md (st.take (na + 1)).reverse S n ss with
          | some (none, S1, n1, ss1) => runA lay fL cL kL cC kI ow nL ret sc L xs callN callA code F n1 ss1 (pc + 3) lv (st.drop (na + 1)) S1
          | _ => none) else none
        | some (6, md, na) => bif cOk (layN lay n) md.2.2.2.2.1 na st then (match callA md (st.take (na + 1)).reverse S n ss with
          | some (none, S1, n1, ss1) => runA lay fL cL kL cC kI ow nL ret sc L xs callN callA code F n1 ss1 (pc + 3) lv (st.drop (na + 1)) S1
          | _ => none) else none
        | _ => none)
      | .invokevirtual ix => (match kL ix with
        | some (0, md, na) => bif cOk (layN lay n) md.2.2.2.2.1 na st then (match callN n md (st.take (na + 1)).reverse S with
          | some (some v, S1) => runA lay fL cL kL cC kI ow nL ret sc L xs callN callA code F n ss (pc + 3) lv (v :: st.drop (na + 1)) S1
          | some (none, S1) => runA lay fL cL kL cC kI ow nL ret sc L xs callN callA code F n ss (pc + 3) lv (st.drop (na + 1)) S1
          | none => none) else none
        | some (4, md, na) => bif cOkT na st then (match callN n md (st.take (na + 1)).reverse S with
          | some (some v, S1) => runA lay fL cL kL cC kI ow nL ret sc L xs callN callA code F n ss (pc + 3) lv (v :: st.drop (na + 1)) S1
          | some (none, S1) => runA lay fL cL kL cC kI ow nL ret sc L xs callN callA code F n ss (pc + 3) lv (st.drop (na + 1)) S1
          | none => none) else none
        | _ => none)
      | .invokestatic ix => (match kL ix with
        | some (1, md, na) => bif cOkS na st then (match callN n md (st.take na).reverse S with
          | some (some v, S1) => runA lay fL cL kL cC kI ow nL ret sc L xs callN callA code F n ss (pc + 3) lv (v :: st.drop na) S1
          | some (none, S1) => runA lay fL cL kL cC kI ow nL ret sc L xs callN callA code F n ss (pc + 3) lv (st.drop na) S1
          | none => none) else none
        | some (3, md, na) => bif cOkS na st then (match callN n md (st.take na).reverse S with
          | some (some v, S1) => runA lay fL cL kL cC kI ow nL ret sc L xs callN callA code F n ss (pc + 3) lv (v :: st.drop na) S1
          | some (none, S1) => runA lay fL cL kL cC kI ow nL ret sc L xs callN callA code F n ss (pc + 3) lv (st.drop na) S1
          | none => none) else none
        | _ => none)
      | .ireturn => (match st with
        | [.int v] => bif sc then some (some (.int v), S, n, ss) else none
        | _ => none)
      | .return_ => (match st with
        | [] => (match ret with
          | none => some (none, S, n, ss)
          | _ => none)
        | _ => none)
      | i => (match stA lay fL cC ow sc L xs i n ss pc st S with
        | some (n1, ss1, pc1, st1, S1) => runA lay fL cL kL cC kI ow nL ret sc L xs callN callA code F n1 ss1 pc1 lv st1 S1
        | none => (match stp (layN lay n) fL cL nL i pc lv st S with
          | some (pc1, lv1, st1, S1) => runA lay fL cL kL cC kI ow nL ret sc L xs callN callA code F n ss pc1 lv1 st1 S1
          | none => none))
def rmA (d mc ms : Nat) : Room := { frames := d, cells := mc, slots := ms, locals := 40 * d }
def sQA (D : va_G) (lay : Nat → Nat × Nat) (n0 n1 : Nat) (ad ca : Nat → Nat) (sz : Nat) (r : Option Value) (S : sS) : Array Value → State → Outcome → State → Prop :=
  fun _ st oc t => (oc = .returned (r.map (trV ad)) ∧ va_P D classes (sW lay n1 ad ca S) t.heap ∧ va_K D classes (sT ca) t ∧ va_D (sA n0 ad sz) (sW lay n1 ad ca S)) ∧ va_F (sA n0 ad sz) st t
def sPreA (D : va_G) (lay : Nat → Nat × Nat) (n : Nat) (ad ca : Nat → Nat) (S : sS) (sz : Nat) (av : List Value) : Array Value → State → Prop := fun a U => sPre D lay n ad ca S sz av a U ∧ sOv U
/-- a constructor's contract -/
def sMA (l : Launch) (D : va_G) (lay : Nat → Nat × Nat) (h0 : Nat) (ad ca : Nat → Nat) (q : mT) (d : Nat) (av : List Value) (S : sS) (n ss : Nat) (r : Option Value) (S1 : sS) (n1 ss1 : Nat) : Prop :=
  n ≤ n1 ∧ ss ≤ ss1 ∧ n1 ≤ 1900 ∧ Met l q.1 (Cond.code q.1 q.2.1 q.2.2.1 q.2.2.2.1 :: lw_good) (rmA d (n1 - n) (ss1 - ss)) (sPreA D lay n ad ca S (h0 + n) (av.map (trV ad))) (sQA D lay n n1 ad ca (h0 + n) r S1) (n1 - n) (ss1 - ss) (sA n ad (h0 + n))
theorem sAOA.moved {u U : State} (hvm : u.vm.Alike U.vm) (h : sAOA u) : sAOA U := by
  have q := Cond.arrayOver_setVmC (args := #[]) (s := u) hvm (.array .int)
  have e : (Cond.arrayOver (.array .int)).before #[] (u.setVm U.vm) = (Cond.arrayOver (.array .int)).before #[] U := by
    first | rfl | simp [Cond.before, Cond.holds, Cond.value]
  exact e.symm.trans (q.trans h)
theorem sOv.moved {u U : State} (hvm : u.vm.Alike U.vm) (h : sOv u) : sOv U := ⟨va_AO.moved hvm h.1, sAOA.moved hvm h.2⟩
/-- a constructor that the small machine may run -/
def MOkA (q : mT) : Prop := plainName q.1.cls = true ∧ ownS q.2.2.2.2.1 = q.1.cls ∧ dOkA q.2.1 q.2.2.2.2.2 = true ∧ q.1.name = "<init>" ∧ q.2.2.2.1 = none
/-- what a constructor's link gives -/
def IOk (own : String) (ix kd na : Nat) (q : mT) : Prop := (kd = 7 ∧ Cond.methodLink own ix objectInit ∈ lw_good ∧ Cond.instanceMethod objectInit ∈ lw_good ∧ Cond.code objectInit ⟨#[0xb1]⟩ 1 none ∈ lw_good) ∨ (kd < 7 ∧ MOkA q ∧ Cond.code q.1 q.2.1 q.2.2.1 none ∈ lw_good ∧ Cond.initialized q.1.cls ∈ lw_good ∧ (q.1.cls ≠ "java/lang/invoke/MethodHandle" ∧ q.1.cls ≠ "java/lang/invoke/VarHandle" ∧ (parseMethodDescriptor q.1.desc).map (fun d => d.parameters.length) = some na) ∧ q.2.2.1 ≤ 21 ∧ Cond.instanceMethod q.1 ∈ lw_good ∧ ((kd = 5 ∧ Cond.methodLink own ix q.1 ∈ lw_good) ∨ (kd = 6 ∧ ∃ host, Cond.methodLinkNest own ix q.1 host ∈ sN)))
section RA
variable {p : Program} {l : Launch} {e : Env} {R : Room} {s : State} {m : MethodId} {args : Array Value} {below : List Frame} {meth : Method} {c : Code} {Q : State → Prop} {H : Heap} {locs : List Loc}
variable {cc : ByteArray} {nL pc cells slots n h0 : Nat} {ls : Array Slot} {rest : List Value} {D : va_G} {lay : Nat → Nat × Nat} {ad ca : Nat → Nat} {own : String} {S : sS}
theorem r_backA {n1 mc ms : Nat} {r : Option Value} {S1 : sS} {a : Array Value} {st0 : List Value} (B : sB D lay n ad ca S s H locs) (hn : n ≤ n1) (hge : ∀ k, n ≤ k → k < n1 → s.heap.size ≤ ad k) (hr : va_Run p l e R s m args below meth c H locs cells slots mc ms (F0 m pc ls st0) rest (sQA D lay n n1 ad ca H.size r S1 a) (sA n ad H.size))
    (kk : ∀ (H : Heap) (locs : List Loc), sB D lay n1 ad ca S1 s H locs → W p l e R s m args below meth c H locs (cells + mc) (slots + ms) Q (F0 m (pc + 3) ls ((r.map (trV ad)).toList ++ rest))) : W p l e R s m args below meth c H locs cells slots Q (F0 m pc ls st0) := by
  intro T hT X
  obtain ⟨v, st₀, t, T', L, h00, X', hL, e1, e2, ⟨⟨hv, hP, hK, hD⟩, hz, hk⟩, st⟩ := hr T hT X
  cases hv
  rw [h00] at hz hk
  have hS := B.2.2.2.1
  have eA : sA n1 ad s.heap.size = sA n ad s.heap.size := sA_up hn hge
  have hS1 : va_S (sA n ad s.heap.size) s.heap T'.heap (locs ++ L) := ⟨Nat.le_trans hS.1 (by rw [e1]; exact hz), fun q h1 h2 => by rw [e1, hk q (Nat.lt_of_lt_of_le h1 hS.1) (fun z => h2 (sA_mono hS.1 z))]; exact hS.2.1 q h1 h2, fun q hq => by
    rcases List.mem_append.mp hq with h | h
    · exact hS.2.2 q h
    · exact sA_mono hS.1 (hL q h)⟩
  have B1 : sB D lay n1 ad ca S1 s T'.heap (locs ++ L) := by
    refine ⟨B.1, by rw [e1]; exact hP, by rw [eA]; exact hD.weaken (fun k q _ h => sA_mono hS.1 h), by rw [eA]; exact hS1, ?_⟩
    unfold sX
    rw [eA]
    exact B.2.2.2.2
  obtain ⟨t2, a1, b1⟩ := kk T'.heap (locs ++ L) B1 T' rfl X'
  exact ⟨t2, st t2 a1, b1⟩
theorem sPreA_blind {sz : Nat} {av : List Value} : FrameBlind (sPreA D lay n ad ca S sz av) := fun a U g mk q => ⟨sPre_blind a U g mk q.1, sOv.moved (u := U) (U := U.calling g mk a) (Vm.Alike.refl U.vm) q.2⟩
/-- a call of a constructor -/
theorem r_runI (G : CallFix p m c cc nL s args lw_good own) (B : sB D lay n ad ca S s H locs) (hOv : sOv s) (hH : H.size = h0 + n) {ix kd na d ss n1 ss1 : Nat} {md : mT} {st : List Value} (hI : IOk own ix kd na md) (hkd : kd = 5 ∨ kd = 6) (hc : cOk (layN lay n) md.2.2.2.2.1 na st = true) {r : Option Value} {S1 : sS} (hM : sMA l D lay h0 ad ca md d (st.take (na + 1)).reverse S n ss r S1 n1 ss1) (hsize : ls.size = nL) (hR : d + 1 ≤ R.frames ∧ 40 * (d + 1) ≤ R.locals) (hcs : cells + (n1 - n) ≤ R.cells ∧ slots + (ss1 - ss) ≤ R.slots) (hdg : decode cc pc = .ok (.invokespecial ix, 3)) :
    ∃ a, va_Run p l e R s m args below meth c H locs cells slots (n1 - n) (ss1 - ss) (F0 m pc ls (st.map (trV ad))) ((st.drop (na + 1)).map (trV ad)) (sQA D lay n n1 ad ca H.size r S1 a) (sA n ad H.size) := by
  rcases hI with ⟨h7, -⟩ | ⟨-, ⟨hpl, hown, hdA, hnm, hret⟩, hcd, hini, hdd, hn, him, hlink⟩
  · omega
  obtain ⟨-, -, -, hM⟩ := hM
  rw [hret] at hM
  unfold cOk at hc
  rw [Bool.and_eq_true, Bool.and_eq_true] at hc
  obtain ⟨⟨h1, h2⟩, h3⟩ := hc
  have hlen := Nat.le_of_ble_eq_true h1
  cases hr : (st.take (na + 1)).reverse with
  | nil => rw [hr] at h3; cases h3
  | cons v As =>
    rw [hr] at h3 hM
    cases v with
    | ref k =>
      have hAs : (As.map (trV ad)).length = na := by
        have q := congrArg List.length hr
        simp [Nat.min_eq_left hlen] at q
        simpa using q.symm
      have hst : st.map (trV ad) = (As.map (trV ad)).reverse ++ .ref (ad k) :: (st.drop (na + 1)).map (trV ad) := by
        have q : st.take (na + 1) = As.reverse ++ [Value.ref k] := by rw [← List.reverse_reverse (st.take (na + 1)), hr]; simp
        have q2 : st = (As.reverse ++ [Value.ref k]) ++ st.drop (na + 1) := by rw [← q]; exact (List.take_append_drop _ _).symm
        conv => lhs; rw [q2]
        simp [List.map_append, List.map_reverse, trV]
      have hpre : PreS s H (sPreA D lay n ad ca S (h0 + n) ((Value.ref k :: As).map (trV ad))) (.ref (ad k) :: As.map (trV ad)) := ⟨sPreA_blind, fun U hU hW => ⟨by have q := sB_pre (av := (Value.ref k :: As).map (trV ad)) B U hU hW; rw [hH] at q; exact q, sOv.moved hW.alike hOv⟩⟩
      rw [hH]
      have hroom : d + 1 ≤ R.frames ∧ 8 + (md.2.2.1 + 11) + 40 * d ≤ R.locals := ⟨hR.1, by have := hR.2; omega⟩
      rcases hlink with ⟨-, hml⟩ | ⟨-, host, hml⟩
      · have cb : CallB R s args own ix md.1 md.2.1 md.2.2.1 none (Cond.code md.1 md.2.1 md.2.2.1 none :: lw_good) (rmA d (n1 - n) (ss1 - ss)) (n1 - n) (ss1 - ss) na := callB_of na G.2.2.2.2 (good_into hcd) rfl rfl rfl (G.2.2.2.2 _ hini) (G.2.2.2.2 _ hml) hdd hroom
        exact ⟨_, va_runI (As := As.map (trV ad)) (rest := (st.drop (na + 1)).map (trV ad)) G hM ⟨cb, hnm, G.2.2.2.2 _ him⟩ hpre rfl hAs hsize hst (lv_room (r_stS h2)) hdg hcs⟩
      · have cb := va_cnB (R := R) (own := own) (host := host) (index := ix) (rm := rmA d (n1 - n) (ss1 - ss)) (mc := n1 - n) (ms := ss1 - ss) na G.2.2.2.2 (good_into hcd) rfl rfl rfl (B.2.2.2.2.1 _ hml) (G.2.2.2.2 _ hini) hdd hroom
        exact ⟨_, va_runIN (As := As.map (trV ad)) (rest := (st.drop (na + 1)).map (trV ad)) G hM ⟨cb, hnm, G.2.2.2.2 _ him⟩ hpre rfl hAs hsize hst (lv_room (r_stS h2)) hdg hcs⟩
    | _ => cases h3
variable {n0 ss0 ow d : Nat} {code : List (Nat × Instr)} {fL : Nat → Option (Nat × Nat × Bool)} {cL : Nat → Option Value} {kL : Nat → Option (Nat × mT × Nat)} {cC : Nat → Option Nat} {kI : Nat → Option (Nat × mT × Nat)} {ret : Option FieldType} {sc : Bool} {L : Nat} {xs : Nat → Int32} {callN : Nat → cal} {callA : calA} {r0 : Option Value} {S0 : sS} {n1 ss1 : Nat}
theorem sB_layN (B : sB D lay n ad ca S s H locs) : sB D (layN lay n) n ad ca S s H locs := by
  unfold sB
  rw [sW_layN]
  exact B
theorem sB_unN (B : sB D (layN lay n) n ad ca S s H locs) : sB D lay n ad ca S s H locs := by
  unfold sB at B
  rw [sW_layN] at B
  exact B
theorem OkP_unN {pc : Nat} {lv : List (Nat × Value)} {st : List Value} (h : OkP p l e R s m args below meth c D (layN lay n) n ad ca nL cells slots Q pc lv st S) : OkP p l e R s m args below meth c D lay n ad ca nL cells slots Q pc lv st S := fun ls H locs hl B => h ls H locs hl (sB_layN B)
theorem OkP_layN {pc : Nat} {lv : List (Nat × Value)} {st : List Value} (h : OkP p l e R s m args below meth c D lay n ad ca nL cells slots Q pc lv st S) : OkP p l e R s m args below meth c D (layN lay n) n ad ca nL cells slots Q pc lv st S := fun ls H locs hl B => h ls H locs hl (sB_unN B)
theorem stA_mono {i : Instr} {n n1 ss ss1 pc pc1 : Nat} {st st1 : List Value} {S S1 : sS} (h : stA lay fL cC ow sc L xs i n ss pc st S = some (n1, ss1, pc1, st1, S1)) (h19 : n ≤ 1900) : n ≤ n1 ∧ ss ≤ ss1 ∧ n1 ≤ 1900 := by
  cases i with
  | new ix =>
    unfold stA at h
    dsimp only at h
    split at h
    · obtain ⟨hb, h⟩ := bif_s h
      rw [Bool.and_eq_true, Bool.and_eq_true] at hb
      have := Nat.le_of_ble_eq_true hb.2.2
      cases h
      omega
    · cases h
  | newarray a =>
    unfold stA at h
    dsimp only at h
    split at h
    · obtain ⟨hb, h⟩ := bif_s h
      simp only [Bool.and_eq_true] at hb
      have := Nat.le_of_ble_eq_true hb.2.2.2
      cases h
      omega
    · cases h
  | multianewarray ix dm =>
    unfold stA at h
    dsimp only at h
    split at h
    · split at h
      · obtain ⟨hb, h⟩ := bif_s h
        simp only [Bool.and_eq_true] at hb
        have := Nat.le_of_ble_eq_true hb.2.2.2.2
        cases h
        refine ⟨by omega, Nat.le_add_right _ _, this⟩
      · cases h
    · cases h
  | anewarray ix =>
    unfold stA at h
    dsimp only at h
    split at h
    · split at h
      · obtain ⟨hb, h⟩ := bif_s h
        simp only [Bool.and_eq_true] at hb
        have := Nat.le_of_ble_eq_true hb.2.2.2.2
        cases h
        omega
      · cases h
    · cases h
  | aastore =>
    unfold stA at h
    dsimp only at h
    split at h
    · obtain ⟨hb, h⟩ := bif_s h
      cases h
      exact ⟨Nat.le_refl _, Nat.le_refl _, h19⟩
    · cases h
  | putfield ix =>
    unfold stA at h
    dsimp only at h
    split at h
    · split at h
      · obtain ⟨hb, h⟩ := bif_s h
        split at h
        · cases h
          exact ⟨Nat.le_refl _, Nat.le_refl _, h19⟩
        · cases h
      · cases h
    · cases h
  | iaload =>
    unfold stA at h
    dsimp only at h
    split at h
    · obtain ⟨hb, h⟩ := bif_s h
      cases h
      exact ⟨Nat.le_refl _, Nat.le_refl _, h19⟩
    · cases h
  | arraylength =>
    unfold stA at h
    dsimp only at h
    split at h
    · obtain ⟨hb, h⟩ := bif_s h
      cases h
      exact ⟨Nat.le_refl _, Nat.le_refl _, h19⟩
    · cases h
  | _ => exact nomatch (show (none : Option cfgA) = some _ from h)
end RA


