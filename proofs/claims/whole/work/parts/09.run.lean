/-! THE SMALL MACHINE: calls, returns, whole methods -/
def cOk (lay : Nat → Nat × Nat) (ci na : Nat) (st : List Value) : Bool := Nat.ble (na + 1) st.length && Nat.ble ((st.drop (na + 1)).map (fun v => v.category)).sum 8 && (match (st.take (na + 1)).reverse with
  | .ref k :: _ => layIs lay k 0 ci
  | _ => false)
def cOkS (na : Nat) (st : List Value) : Bool := Nat.ble na st.length && Nat.ble ((st.drop na).map (fun v => v.category)).sum 8
def retI (ret : Option FieldType) (v : Int32) : Bool := match ret with
  | some .int => true
  | some .boolean => decide (v = 0 ∨ v = 1)
  | _ => false
def retA (ret : Option FieldType) (v : Value) : Bool := match ret, v with
  | some (.object _), .ref _ => true
  | some (.object _), .null => true
  | some (.array _), .ref _ => true
  | some (.array _), .null => true
  | _, _ => false
abbrev cal : Type := Nat → List Value → sS → Option (Option Value × sS)
def run (lay : Nat → Nat × Nat) (fL : Nat → Option (Nat × Nat × Bool)) (cL : Nat → Option Value) (kL : Nat → Option (Nat × Nat × Nat)) (mC : Nat → Nat) (nL : Nat) (ret : Option FieldType) (call : cal) (code : List (Nat × Instr)) : Nat → Nat → List (Nat × Value) → List Value → sS → Option (Option Value × sS)
  | 0, _, _, _, _ => none
  | F + 1, pc, lv, st, S => match lk code pc with
    | none => none
    | some i => match i with
      | .invokevirtual ix => (match kL ix with
        | some (0, md, na) => bif cOk lay (mC md) na st then (match call md (st.take (na + 1)).reverse S with
          | some (some v, S1) => run lay fL cL kL mC nL ret call code F (pc + 3) lv (v :: st.drop (na + 1)) S1
          | some (none, S1) => run lay fL cL kL mC nL ret call code F (pc + 3) lv (st.drop (na + 1)) S1
          | none => none) else none
        | _ => none)
      | .invokestatic ix => (match kL ix with
        | some (1, md, na) => bif cOkS na st then (match call md (st.take na).reverse S with
          | some (some v, S1) => run lay fL cL kL mC nL ret call code F (pc + 3) lv (v :: st.drop na) S1
          | some (none, S1) => run lay fL cL kL mC nL ret call code F (pc + 3) lv (st.drop na) S1
          | none => none) else none
        | some (3, md, na) => bif cOkS na st then (match call md (st.take na).reverse S with
          | some (some v, S1) => run lay fL cL kL mC nL ret call code F (pc + 3) lv (v :: st.drop na) S1
          | some (none, S1) => run lay fL cL kL mC nL ret call code F (pc + 3) lv (st.drop na) S1
          | none => none) else none
        | _ => none)
      | .ireturn => (match st with
        | [.int v] => bif retI ret v then some (some (.int v), S) else none
        | _ => none)
      | .lreturn => (match st with
        | [.long v] => (match ret with
          | some .long => some (some (.long v), S)
          | _ => none)
        | _ => none)
      | .areturn => (match st with
        | [v] => bif retA ret v then some (some v, S) else none
        | _ => none)
      | .return_ => (match st with
        | [] => (match ret with
          | none => some (none, S)
          | _ => none)
        | _ => none)
      | i => (match stp lay fL cL nL i pc lv st S with
        | some (pc1, lv1, st1, S1) => run lay fL cL kL mC nL ret call code F pc1 lv1 st1 S1
        | none => none)
section RN
variable {p : Program} {l : Launch} {e : Env} {R : Room} {s : State} {m : MethodId} {args : Array Value} {below : List Frame} {meth : Method} {c : Code} {Q : State → Prop} {H : Heap} {locs : List Loc}
variable {cc : ByteArray} {nL pc : Nat} {ls : Array Slot} {rest : List Value} {D : va_G} {lay : Nat → Nat × Nat} {nc : Nat} {ad ca : Nat → Nat} {own : String} {code : List (Nat × Instr)} {fL : Nat → Option (Nat × Nat × Bool)} {cL : Nat → Option Value} {kL : Nat → Option (Nat × Nat × Nat)} {mC : Nat → Nat} {S : sS}
/-- a contract's end: the answer and the state -/
def sQ (D : va_G) (lay : Nat → Nat × Nat) (nc : Nat) (ad ca : Nat → Nat) (sz : Nat) (r : Option Value) (S : sS) : Array Value → State → Outcome → State → Prop :=
  fun _ st oc t => (oc = .returned (r.map (trV ad)) ∧ sAt D lay nc ad ca sz S t) ∧ va_F (sA nc ad sz) st t
def sM (l : Launch) (D : va_G) (lay : Nat → Nat × Nat) (nc : Nat) (ad ca : Nat → Nat) (y : MethodName) (b : ByteArray) (n : Nat) (ret : Option FieldType) (d : Nat) (av : List Value) (S : sS) (r : Option Value) (S1 : sS) : Prop :=
  ∀ sz : Nat, Met l y (Cond.code y b n ret :: lw_good) (rmD d) (sPre D lay nc ad ca S sz (av.map (trV ad))) (sQ D lay nc ad ca sz r S1) 0 0 (sA nc ad sz)
theorem sM_of {y : MethodName} {b : ByteArray} {n d : Nat} {ret : Option FieldType} {av : List Value} {r : Option Value} {S1 : sS} (hy : plainName y.cls = true) (hn : (lg_sl (av.map (trV ad))).length ≤ n)
    (body : ∀ (p : Program) (e : Env) (s : State) (m : MethodId) (below : List Frame) (meth : Method) (c : Code) (ls : Array Slot), CallFix p m c b n s (av.map (trV ad)).toArray lw_good y.cls → sB D lay nc ad ca S s s.heap [] → meth.sig.returnType = ret → meth.locks = false → lv_has ls n (lv_args 0 (av.map (trV ad))) →
      W p l e (rmD d) s m (av.map (trV ad)).toArray below meth c s.heap [] 0 0 (MQ below (sQ D lay nc ad ca s.heap.size r S1) (av.map (trV ad)).toArray s 0 0 (sA nc ad s.heap.size)) (F0 m 0 ls [])) : sM l D lay nc ad ca y b n ret d av S r S1 := by
  intro sz
  refine Met.ofW (cc := b) (maxL := n) (ret := ret) hy rfl ?_
  intro p e s m args below meth c s₁ B hml hv
  obtain ⟨rfl, hsz, hP, hK, hD0, hN⟩ := hv
  subst hsz
  have hl := lv_entry (av.map (trV ad)) (n := n) hn
  have hts := atoms_spec (ws := Cond.code y b n ret :: lw_good) B.pre
  have hD := hD0.self (sz := s.heap.size)
  rw [sA_eq] at hD
  rw [lg_entry_eq]
  exact body p e s m below meth c _ ⟨B.exec, B.bytes, hml, findClass_of_methodNamed B.named, fun w hw => hts w (List.mem_cons_of_mem _ hw)⟩ ⟨hK, hP, hD, va_S.rf, hN⟩ B.returns B.notSynchronized hl
theorem r_back {r : Option Value} {S1 : sS} {a : Array Value} {st0 : List Value} (B : sB D lay nc ad ca S s H locs) (hr : va_Run p l e R s m args below meth c H locs 0 0 0 0 (F0 m pc ls st0) rest (sQ D lay nc ad ca H.size r S1 a) (sA nc ad H.size))
    (kk : ∀ (H : Heap) (locs : List Loc), sB D lay nc ad ca S1 s H locs → W p l e R s m args below meth c H locs 0 0 Q (F0 m (pc + 3) ls ((r.map (trV ad)).toList ++ rest))) : W p l e R s m args below meth c H locs 0 0 Q (F0 m pc ls st0) := by
  intro T hT X
  obtain ⟨v, st₀, t, T', L, h0, X', hL, e1, e2, ⟨⟨hv, hB⟩, hz, hk⟩, st⟩ := hr T hT X
  cases hv
  rw [h0] at hz hk
  have hS := B.2.2.2.1
  have hS1 : va_S (sA nc ad s.heap.size) s.heap T'.heap (locs ++ L) := ⟨Nat.le_trans hS.1 (by rw [e1]; exact hz), fun q h1 h2 => by rw [e1, hk q (Nat.lt_of_lt_of_le h1 hS.1) (fun z => h2 (sA_mono hS.1 z))]; exact hS.2.1 q h1 h2, fun q hq => by
    rcases List.mem_append.mp hq with h | h
    · exact hS.2.2 q h
    · exact sA_mono hS.1 (hL q h)⟩
  obtain ⟨t2, a1, b1⟩ := kk T'.heap (locs ++ L) (sB_back B e1.symm (by rw [← e2]; exact X'.warmed.alike) hB hS1) T' rfl X'
  exact ⟨t2, st t2 a1, b1⟩
/-- what a call's link gives -/
def KOk (own : String) (ix kd na ci : Nat) (y : MethodName) (b : ByteArray) (n : Nat) (ret : Option FieldType) : Prop :=
  Cond.code y b n ret ∈ lw_good ∧ Cond.initialized y.cls ∈ lw_good ∧ (y.cls ≠ "java/lang/invoke/MethodHandle" ∧ y.cls ≠ "java/lang/invoke/VarHandle" ∧ (parseMethodDescriptor y.desc).map (fun d => d.parameters.length) = some na) ∧ n ≤ 21 ∧ (match kd with
  | 0 => Cond.methodLink own ix y ∈ lw_good ∧ Cond.instanceMethod y ∈ lw_good ∧ ∃ (C : String) (T : u_T) (N : Nat), classes[ci]? = some (C, T, N) ∧ Cond.selects C y y ∈ lw_good
  | 1 => Cond.methodLink own ix y ∈ lw_good ∧ Cond.static y ∈ lw_good
  | 3 => Cond.static y ∈ lw_good ∧ ∃ host, Cond.methodLinkNest own ix y host ∈ sN
  | _ => True)
variable {mY : Nat → MethodName} {mB : Nat → ByteArray} {mN : Nat → Nat} {mR : Nat → Option FieldType} {call : cal} {d : Nat}
theorem r_runV (G : CallFix p m c cc nL s args lw_good own) (B : sB D lay nc ad ca S s H locs) (hlay : ∀ k, (lay k).1 < 7 → k < nc) {ix md na : Nat} {st : List Value} (hK : KOk own ix 0 na (mC md) (mY md) (mB md) (mN md) (mR md)) (hc : cOk lay (mC md) na st = true) {r : Option Value} {S1 : sS} (hM : sM l D lay nc ad ca (mY md) (mB md) (mN md) (mR md) d (st.take (na + 1)).reverse S r S1) (hsize : ls.size = nL) (hdg : decode cc pc = .ok (.invokevirtual ix, 3)) :
    ∃ a, va_Run p l e (rmD (d + 1)) s m args below meth c H locs 0 0 0 0 (F0 m pc ls (st.map (trV ad))) ((st.drop (na + 1)).map (trV ad)) (sQ D lay nc ad ca H.size r S1 a) (sA nc ad H.size) := by
  obtain ⟨hcd, hini, hdd, hn, hml, him, C, T, N, hcl, hse⟩ := hK
  unfold cOk at hc
  rw [Bool.and_eq_true, Bool.and_eq_true] at hc
  obtain ⟨⟨h1, h2⟩, h3⟩ := hc
  have hlen := Nat.le_of_ble_eq_true h1
  cases hr : (st.take (na + 1)).reverse with
  | nil => rw [hr] at h3; cases h3
  | cons v As =>
    rw [hr] at h3 hM
    cases v with
    | ref k =>
      have hl0 := layIs_at h3
      have hk := hlay k (by rw [hl0]; exact Nat.zero_lt_succ 6)
      have hAs : (As.map (trV ad)).length = na := by
        have q := congrArg List.length hr
        simp [Nat.min_eq_left hlen] at q
        simpa using q.symm
      have hst : st.map (trV ad) = (As.map (trV ad)).reverse ++ .ref (ad k) :: (st.drop (na + 1)).map (trV ad) := by
        have q : st.take (na + 1) = As.reverse ++ [Value.ref k] := by rw [← List.reverse_reverse (st.take (na + 1)), hr]; simp
        have q2 : st = (As.reverse ++ [Value.ref k]) ++ st.drop (na + 1) := by rw [← q]; exact (List.take_append_drop _ _).symm
        conv => lhs; rw [q2]
        simp [List.map_append, List.map_reverse, trV]
      have cb : CallB (rmD (d + 1)) s args own ix (mY md) (mB md) (mN md) (mR md) (Cond.code (mY md) (mB md) (mN md) (mR md) :: lw_good) (rmD d) 0 0 na := callB_of na G.2.2.2.2 (good_into hcd) rfl rfl rfl (G.2.2.2.2 _ hini) (G.2.2.2.2 _ hml) hdd ⟨Nat.le_refl _, by show 8 + (mN md + 11) + 40 * d ≤ 40 * (d + 1); omega⟩
      refine ⟨_, va_runV (As := As.map (trV ad)) (rest := (st.drop (na + 1)).map (trV ad)) G (hM H.size) ⟨cb, G.2.2.2.2 _ him, G.2.2.2.2 _ hse⟩ ⟨sPre_blind, r_recv B hl0 hk hcl, sB_pre B⟩ rfl hAs hsize hst (lv_room ?_) hdg ⟨Nat.le_refl _, Nat.le_refl _⟩⟩
      have h2 := Nat.le_of_ble_eq_true h2
      rw [List.map_map]
      have e : ((fun v : Value => v.category) ∘ trV ad) = fun v : Value => v.category := funext fun v => trV_cat
      rw [e]
      exact h2
    | _ => cases h3
theorem r_stS {X : List Value} (h2 : Nat.ble (X.map (fun v => v.category)).sum 8 = true) : ((X.map (trV ad)).map (fun v => v.category)).sum ≤ 8 := by
  rw [List.map_map]
  have e : ((fun v : Value => v.category) ∘ trV ad) = fun v : Value => v.category := funext fun v => trV_cat
  rw [e]
  exact Nat.le_of_ble_eq_true h2
theorem r_runS (G : CallFix p m c cc nL s args lw_good own) (B : sB D lay nc ad ca S s H locs) {ix md na : Nat} {st : List Value} (hK : KOk own ix 1 na (mC md) (mY md) (mB md) (mN md) (mR md)) (hc : cOkS na st = true) {r : Option Value} {S1 : sS} (hM : sM l D lay nc ad ca (mY md) (mB md) (mN md) (mR md) d (st.take na).reverse S r S1) (hsize : ls.size = nL) (hdg : decode cc pc = .ok (.invokestatic ix, 3)) :
    ∃ a, va_Run p l e (rmD (d + 1)) s m args below meth c H locs 0 0 0 0 (F0 m pc ls (st.map (trV ad))) ((st.drop na).map (trV ad)) (sQ D lay nc ad ca H.size r S1 a) (sA nc ad H.size) := by
  obtain ⟨hcd, hini, hdd, hn, hml, hstt⟩ := hK
  unfold cOkS at hc
  rw [Bool.and_eq_true] at hc
  have hlen := Nat.le_of_ble_eq_true hc.1
  have hAs : ((st.take na).reverse.map (trV ad)).length = na := by simp [Nat.min_eq_left hlen]
  have hst : st.map (trV ad) = ((st.take na).reverse.map (trV ad)).reverse ++ (st.drop na).map (trV ad) := by
    rw [← List.map_reverse, List.reverse_reverse, ← List.map_append, List.take_append_drop]
  have cb : CallB (rmD (d + 1)) s args own ix (mY md) (mB md) (mN md) (mR md) (Cond.code (mY md) (mB md) (mN md) (mR md) :: lw_good) (rmD d) 0 0 na := callB_of na G.2.2.2.2 (good_into hcd) rfl rfl rfl (G.2.2.2.2 _ hini) (G.2.2.2.2 _ hml) hdd ⟨Nat.le_refl _, by show 8 + (mN md + 11) + 40 * d ≤ 40 * (d + 1); omega⟩
  exact ⟨_, va_runS (As := (st.take na).reverse.map (trV ad)) (rest := (st.drop na).map (trV ad)) G (hM H.size) ⟨cb, G.2.2.2.2 _ hstt⟩ ⟨sPre_blind, sB_pre B⟩ rfl hAs hsize hst (lv_room (r_stS hc.2)) hdg ⟨Nat.le_refl _, Nat.le_refl _⟩⟩
theorem r_runN (G : CallFix p m c cc nL s args lw_good own) (B : sB D lay nc ad ca S s H locs) {ix md na : Nat} {st : List Value} (hK : KOk own ix 3 na (mC md) (mY md) (mB md) (mN md) (mR md)) (hc : cOkS na st = true) {r : Option Value} {S1 : sS} (hM : sM l D lay nc ad ca (mY md) (mB md) (mN md) (mR md) d (st.take na).reverse S r S1) (hsize : ls.size = nL) (hdg : decode cc pc = .ok (.invokestatic ix, 3)) :
    ∃ a, va_Run p l e (rmD (d + 1)) s m args below meth c H locs 0 0 0 0 (F0 m pc ls (st.map (trV ad))) ((st.drop na).map (trV ad)) (sQ D lay nc ad ca H.size r S1 a) (sA nc ad H.size) := by
  obtain ⟨hcd, hini, hdd, hn, hstt, host, hml⟩ := hK
  unfold cOkS at hc
  rw [Bool.and_eq_true] at hc
  have hlen := Nat.le_of_ble_eq_true hc.1
  have hAs : ((st.take na).reverse.map (trV ad)).length = na := by simp [Nat.min_eq_left hlen]
  have hst : st.map (trV ad) = ((st.take na).reverse.map (trV ad)).reverse ++ (st.drop na).map (trV ad) := by
    rw [← List.map_reverse, List.reverse_reverse, ← List.map_append, List.take_append_drop]
  have cb := va_cnB (R := rmD (d + 1)) (own := own) (host := host) (index := ix) (rm := rmD d) (mc := 0) (ms := 0) na G.2.2.2.2 (good_into hcd) rfl rfl rfl (B.2.2.2.2 _ hml) (G.2.2.2.2 _ hini) hdd ⟨Nat.le_refl _, by show 8 + (mN md + 11) + 40 * d ≤ 40 * (d + 1); omega⟩
  exact ⟨_, va_runSN (As := (st.take na).reverse.map (trV ad)) (rest := (st.drop na).map (trV ad)) G (hM H.size) ⟨cb, G.2.2.2.2 _ hstt, trivial⟩ ⟨sPre_blind, sB_pre B⟩ rfl hAs hsize hst (lv_room (r_stS hc.2)) hdg ⟨Nat.le_refl _, Nat.le_refl _⟩⟩
end RN
