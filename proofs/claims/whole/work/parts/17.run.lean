/-! THE SMALL MACHINE: calls, returns, whole methods -/
def cOk (lay : Nat → Nat × Nat) (ci na : Nat) (st : List Value) : Bool := Nat.ble (na + 1) st.length && Nat.ble ((st.drop (na + 1)).map (fun v => v.category)).sum 8 && (match (st.take (na + 1)).reverse with
  | .ref k :: _ => layIs lay k 0 ci
  | _ => false)
def cOkT (na : Nat) (st : List Value) : Bool := Nat.ble (na + 1) st.length && Nat.ble ((st.drop (na + 1)).map (fun v => v.category)).sum 8 && (match (st.take (na + 1)).reverse with
  | .ref k :: _ => Nat.ble SB k && (strT[k - SB]?).isSome
  | _ => false)
def cOkS (na : Nat) (st : List Value) : Bool := Nat.ble na st.length && Nat.ble ((st.drop na).map (fun v => v.category)).sum 8
/-- System.arraycopy -/
def acp (lay : Nat → Nat × Nat) (S : sS) (a : Nat) (sp : Int32) (b : Nat) (dp n : Int32) : Option sS :=
  bif (decide (¬ sp < 0) && (decide (¬ dp < 0) && decide (¬ n < 0))) && (Nat.ble (sp.toNatClampNeg + n.toNatClampNeg) (lay a).2 && Nat.ble (dp.toNatClampNeg + n.toNatClampNeg) (lay b).2) then
    (bif Nat.beq (lay a).1 1 && Nat.beq (lay b).1 1 then some (va_up S.1 b (va_cpy (S.1 a) (S.1 b) sp.toNatClampNeg dp.toNatClampNeg n.toNatClampNeg), S.2.1, S.2.2)
    else bif Nat.beq (lay a).1 2 && Nat.beq (lay b).1 2 then some (S.1, va_up S.2.1 b (va_cpy (S.2.1 a) (S.2.1 b) sp.toNatClampNeg dp.toNatClampNeg n.toNatClampNeg), S.2.2)
    else bif (Nat.beq (lay a).1 3 && Nat.beq (lay b).1 3) && (List.range n.toNatClampNeg).all (fun i => fits .byte (.int (S.1 a (sp.toNatClampNeg + i)))) then some (va_up S.1 b (va_cpy (S.1 a) (S.1 b) sp.toNatClampNeg dp.toNatClampNeg n.toNatClampNeg), S.2.1, S.2.2)
    else none) else none
def retI (ret : Option FieldType) (v : Int32) : Bool := match ret with
  | some .int => true
  | some .boolean => decide (v = 0 ∨ v = 1)
  | some .byte => decide (narrow .byte (.int v) = .int v)
  | some .char => decide (narrow .char (.int v) = .int v)
  | _ => false
def retA (ret : Option FieldType) (v : Value) : Bool := match ret, v with
  | some (.object _), .ref _ => true
  | some (.object _), .null => true
  | some (.array _), .ref _ => true
  | some (.array _), .null => true
  | _, _ => false
/-- a method: its name, its bytes, how many locals, what it answers, its class's number, its rows -/
abbrev mT : Type := MethodName × ByteArray × Nat × Option FieldType × Nat × List (Nat × Instr)
def ownS : Nat → String
  | 0 => R_rs | 1 => R_vo | 2 => R_wo | 3 => R_bo | 4 => R_cl | 5 => R_to | 6 => R_co | 7 => R_gr | 8 => R_re | 9 => R_me | 10 => R_rr | 11 => R_tu | 12 => R_mo
  | 20 => "java/lang/String" | 21 => "java/lang/StringLatin1" | 22 => "java/lang/Math" | 23 => "java/lang/Integer" | _ => ""
/-- a method that the small machine may run -/
def MOk (q : mT) : Prop := plainName q.1.cls = true ∧ ((ownS q.2.2.2.2.1 = q.1.cls ∧ dOk q.2.1 q.2.2.2.2.2 = true ∧ Nat.blt q.2.2.2.2.1 99 = true) ∨ q = (⟨"java/lang/String", "checkIndex", "(II)V"⟩, b_js_checkIndex, 2, none, 99, []))
abbrev cal : Type := mT → List Value → sS → Option (Option Value × sS)
def run (lay : Nat → Nat × Nat) (fL : Nat → Option (Nat × Nat × Bool)) (cL : Nat → Option Value) (kL : Nat → Option (Nat × mT × Nat)) (nL : Nat) (ret : Option FieldType) (call : cal) (code : List (Nat × Instr)) : Nat → Nat → List (Nat × Value) → List Value → sS → Option (Option Value × sS)
  | 0, _, _, _, _ => none
  | F + 1, pc, lv, st, S => match lk code pc with
    | none => none
    | some i => match i with
      | .invokevirtual ix => (match kL ix with
        | some (0, md, na) => bif cOk lay md.2.2.2.2.1 na st then (match call md (st.take (na + 1)).reverse S with
          | some (some v, S1) => run lay fL cL kL nL ret call code F (pc + 3) lv (v :: st.drop (na + 1)) S1
          | some (none, S1) => run lay fL cL kL nL ret call code F (pc + 3) lv (st.drop (na + 1)) S1
          | none => none) else none
        | some (4, md, na) => bif cOkT na st then (match call md (st.take (na + 1)).reverse S with
          | some (some v, S1) => run lay fL cL kL nL ret call code F (pc + 3) lv (v :: st.drop (na + 1)) S1
          | some (none, S1) => run lay fL cL kL nL ret call code F (pc + 3) lv (st.drop (na + 1)) S1
          | none => none) else none
        | _ => none)
      | .invokestatic ix => (match kL ix with
        | some (1, md, na) => bif cOkS na st then (match call md (st.take na).reverse S with
          | some (some v, S1) => run lay fL cL kL nL ret call code F (pc + 3) lv (v :: st.drop na) S1
          | some (none, S1) => run lay fL cL kL nL ret call code F (pc + 3) lv (st.drop na) S1
          | none => none) else none
        | some (3, md, na) => bif cOkS na st then (match call md (st.take na).reverse S with
          | some (some v, S1) => run lay fL cL kL nL ret call code F (pc + 3) lv (v :: st.drop na) S1
          | some (none, S1) => run lay fL cL kL nL ret call code F (pc + 3) lv (st.drop na) S1
          | none => none) else none
        | some (9, _, _) => (match st with
          | .int n :: .int dp :: .ref b :: .int sp :: .ref a :: r => bif Nat.ble (r.map (fun v => v.category)).sum 8 then (match acp lay S a sp b dp n with
            | some S1 => run lay fL cL kL nL ret call code F (pc + 3) lv r S1
            | none => none) else none
          | _ => none)
        | some (10, _, _) => (match st with
          | .int y :: .int x :: r => bif Nat.ble (r.map (fun v => v.category)).sum 8 then run lay fL cL kL nL ret call code F (pc + 3) lv (.int (if x < y then y else x) :: r) S else none
          | _ => none)
        | some (11, _, _) => (match st with
          | .int y :: .int x :: r => bif Nat.ble (r.map (fun v => v.category)).sum 8 then run lay fL cL kL nL ret call code F (pc + 3) lv (.int (if y < x then y else x) :: r) S else none
          | _ => none)
        | some (12, _, _) => (match st with
          | .int x :: r => bif Nat.ble (r.map (fun v => v.category)).sum 8 then run lay fL cL kL nL ret call code F (pc + 3) lv (.int (if 0 ≤ x then x else 0 - x) :: r) S else none
          | _ => none)
        | _ => none)
      | .ireturn => (match st with
        | [.int v] => bif retI ret v then some (some (.int v), S) else none
        | _ => none)
      | .lreturn => (match st with
        | [.long v] => (match ret with
          | some .long => some (some (.long v), S)
          | _ => none)
        | _ => none)
      | .areturn => (match st with
        | [v] => bif retA ret v then some (some v, S) else none
        | _ => none)
      | .return_ => (match st with
        | [] => (match ret with
          | none => some (none, S)
          | _ => none)
        | _ => none)
      | i => (match stp lay fL cL nL i pc lv st S with
        | some (pc1, lv1, st1, S1) => run lay fL cL kL nL ret call code F pc1 lv1 st1 S1
        | none => none)
section RN
variable {p : Program} {l : Launch} {e : Env} {R : Room} {s : State} {m : MethodId} {args : Array Value} {below : List Frame} {meth : Method} {c : Code} {Q : State → Prop} {H : Heap} {locs : List Loc}
variable {cc : ByteArray} {nL pc cells slots : Nat} {ls : Array Slot} {rest : List Value} {D : va_G} {lay : Nat → Nat × Nat} {nc : Nat} {ad ca : Nat → Nat} {own : String} {code : List (Nat × Instr)} {fL : Nat → Option (Nat × Nat × Bool)} {cL : Nat → Option Value} {kL : Nat → Option (Nat × mT × Nat)} {S : sS}
/-- a contract's end: the answer and the state -/
def sQ (D : va_G) (lay : Nat → Nat × Nat) (nc : Nat) (ad ca : Nat → Nat) (sz : Nat) (r : Option Value) (S : sS) : Array Value → State → Outcome → State → Prop :=
  fun _ st oc t => (oc = .returned (r.map (trV ad)) ∧ sAt D lay nc ad ca sz S t) ∧ va_F (sA nc ad sz) st t
def sM (l : Launch) (D : va_G) (lay : Nat → Nat × Nat) (nc : Nat) (ad ca : Nat → Nat) (y : MethodName) (b : ByteArray) (n : Nat) (ret : Option FieldType) (d : Nat) (av : List Value) (S : sS) (r : Option Value) (S1 : sS) : Prop :=
  ∀ sz : Nat, Met l y (Cond.code y b n ret :: lw_good) (rmD d) (sPre D lay nc ad ca S sz (av.map (trV ad))) (sQ D lay nc ad ca sz r S1) 0 0 (sA nc ad sz)
def sMR (l : Launch) (D : va_G) (lay : Nat → Nat × Nat) (nc : Nat) (ad ca : Nat → Nat) (y : MethodName) (b : ByteArray) (n : Nat) (ret : Option FieldType) (d : Nat) (av : List Value) (S : sS) (r : Option Value) (S1 : sS) : Prop :=
  ∀ sz : Nat, Met l y (Cond.code y b n ret :: lw_good) (rmD d) (sPre D lay nc ad ca S sz av) (sQ D lay nc ad ca sz r S1) 0 0 (sA nc ad sz)
theorem sMR_of {y : MethodName} {b : ByteArray} {n d : Nat} {ret : Option FieldType} {av : List Value} {r : Option Value} {S1 : sS} (hy : plainName y.cls = true) (hn : (lg_sl av).length ≤ n)
    (body : ∀ (p : Program) (e : Env) (s : State) (m : MethodId) (below : List Frame) (meth : Method) (c : Code) (ls : Array Slot), CallFix p m c b n s av.toArray lw_good y.cls → sB D lay nc ad ca S s s.heap [] → meth.sig.returnType = ret → meth.locks = false → lv_has ls n (lv_args 0 av) →
      W p l e (rmD d) s m av.toArray below meth c s.heap [] 0 0 (MQ below (sQ D lay nc ad ca s.heap.size r S1) av.toArray s 0 0 (sA nc ad s.heap.size)) (F0 m 0 ls [])) : sMR l D lay nc ad ca y b n ret d av S r S1 := by
  intro sz
  refine Met.ofW (cc := b) (maxL := n) (ret := ret) hy rfl ?_
  intro p e s m args below meth c s₁ B hml hv
  obtain ⟨rfl, hsz, hP, hK, hD0, hN⟩ := hv
  subst hsz
  have hl := lv_entry av (n := n) hn
  have hts := atoms_spec (ws := Cond.code y b n ret :: lw_good) B.pre
  have hD := hD0.self (sz := s.heap.size)
  rw [sA_eq] at hD
  rw [lg_entry_eq]
  exact body p e s m below meth c _ ⟨B.exec, B.bytes, hml, findClass_of_methodNamed B.named, fun w hw => hts w (List.mem_cons_of_mem _ hw)⟩ ⟨hK, hP, hD, va_S.rf, hN⟩ B.returns B.notSynchronized hl
theorem r_back {r : Option Value} {S1 : sS} {a : Array Value} {st0 : List Value} (B : sB D lay nc ad ca S s H locs) (hr : va_Run p l e R s m args below meth c H locs cells slots 0 0 (F0 m pc ls st0) rest (sQ D lay nc ad ca H.size r S1 a) (sA nc ad H.size))
    (kk : ∀ (H : Heap) (locs : List Loc), sB D lay nc ad ca S1 s H locs → W p l e R s m args below meth c H locs cells slots Q (F0 m (pc + 3) ls ((r.map (trV ad)).toList ++ rest))) : W p l e R s m args below meth c H locs cells slots Q (F0 m pc ls st0) := by
  intro T hT X
  obtain ⟨v, st₀, t, T', L, h0, X', hL, e1, e2, ⟨⟨hv, hB⟩, hz, hk⟩, st⟩ := hr T hT X
  cases hv
  rw [h0] at hz hk
  have hS := B.2.2.2.1
  have hS1 : va_S (sA nc ad s.heap.size) s.heap T'.heap (locs ++ L) := ⟨Nat.le_trans hS.1 (by rw [e1]; exact hz), fun q h1 h2 => by rw [e1, hk q (Nat.lt_of_lt_of_le h1 hS.1) (fun z => h2 (sA_mono hS.1 z))]; exact hS.2.1 q h1 h2, fun q hq => by
    rcases List.mem_append.mp hq with h | h
    · exact hS.2.2 q h
    · exact sA_mono hS.1 (hL q h)⟩
  obtain ⟨t2, a1, b1⟩ := kk T'.heap (locs ++ L) (sB_back B e1.symm (by rw [← e2]; exact X'.warmed.alike) hB hS1) T' rfl X'
  exact ⟨t2, st t2 a1, b1⟩
/-- what a call's link gives -/
def KO (own : String) (ix kd na : Nat) (q : mT) : Prop :=
  MOk q ∧ Cond.code q.1 q.2.1 q.2.2.1 q.2.2.2.1 ∈ lw_good ∧ Cond.initialized q.1.cls ∈ lw_good ∧ (q.1.cls ≠ "java/lang/invoke/MethodHandle" ∧ q.1.cls ≠ "java/lang/invoke/VarHandle" ∧ (parseMethodDescriptor q.1.desc).map (fun d => d.parameters.length) = some na) ∧ q.2.2.1 ≤ 21 ∧ (match kd with
  | 0 => Cond.methodLink own ix q.1 ∈ lw_good ∧ Cond.instanceMethod q.1 ∈ lw_good ∧ ∃ (C : String) (T : u_T) (N : Nat), classes[q.2.2.2.2.1]? = some (C, T, N) ∧ Cond.selects C q.1 q.1 ∈ lw_good
  | 1 => Cond.methodLink own ix q.1 ∈ lw_good ∧ Cond.static q.1 ∈ lw_good
  | 4 => Cond.methodLink own ix q.1 ∈ lw_good ∧ Cond.instanceMethod q.1 ∈ lw_good ∧ Cond.selects "java/lang/String" q.1 q.1 ∈ lw_good
  | 3 => Cond.static q.1 ∈ lw_good ∧ ∃ host, Cond.methodLinkNest own ix q.1 host ∈ sN
  | _ => True)
variable {call : cal} {d : Nat}
/-- what the link of System.arraycopy gives -/
def CP (own : String) (ix : Nat) : Prop := Cond.methodLink own ix arraycopyName ∈ lw_good ∧ Cond.native arraycopyName ∈ lw_good ∧ Cond.static arraycopyName ∈ lw_good ∧ Cond.initialized "java/lang/System" ∈ lw_good
/-- what the link of Math.max, min or abs gives -/
def MK (own : String) (ix : Nat) (y : MethodName) (b : ByteArray) (n : Nat) : Prop := Cond.methodLink own ix y ∈ lw_good ∧ Cond.static y ∈ lw_good ∧ Cond.initialized "java/lang/Math" ∈ lw_good ∧ Cond.code y b n (some .int) ∈ lw_good
def KOk (own : String) (ix kd na : Nat) (q : mT) : Prop := (kd = 9 ∧ CP own ix) ∨ (kd < 9 ∧ KO own ix kd na q) ∨ (kd = 10 ∧ MK own ix Lib.Math.max.name Lib.Math.max.code 2) ∨ (kd = 11 ∧ MK own ix Lib.Math.min.name Lib.Math.min.code 2) ∨ (kd = 12 ∧ MK own ix Lib.Math.abs.name Lib.Math.abs.code 1)
theorem KOk.of {own : String} {ix kd na : Nat} {q : mT} (h : KOk own ix kd na q) (hn : kd < 9) : KO own ix kd na q := by
  rcases h with ⟨h, -⟩ | ⟨-, h⟩ | ⟨h, -⟩ | ⟨h, -⟩ | ⟨h, -⟩
  · omega
  · exact h
  · omega
  · omega
  · omega
theorem KOk.cp {own : String} {ix na : Nat} {q : mT} (h : KOk own ix 9 na q) : CP own ix := by
  rcases h with ⟨-, h⟩ | ⟨h, -⟩ | ⟨h, -⟩ | ⟨h, -⟩ | ⟨h, -⟩
  · exact h
  · omega
  · omega
  · omega
  · omega
theorem KOk.mx {own : String} {ix na : Nat} {q : mT} (h : KOk own ix 10 na q) : MK own ix Lib.Math.max.name Lib.Math.max.code 2 := by
  rcases h with ⟨h, -⟩ | ⟨h, -⟩ | ⟨-, h⟩ | ⟨h, -⟩ | ⟨h, -⟩
  · omega
  · omega
  · exact h
  · omega
  · omega
theorem KOk.mn {own : String} {ix na : Nat} {q : mT} (h : KOk own ix 11 na q) : MK own ix Lib.Math.min.name Lib.Math.min.code 2 := by
  rcases h with ⟨h, -⟩ | ⟨h, -⟩ | ⟨h, -⟩ | ⟨-, h⟩ | ⟨h, -⟩
  · omega
  · omega
  · omega
  · exact h
  · omega
theorem KOk.ma {own : String} {ix na : Nat} {q : mT} (h : KOk own ix 12 na q) : MK own ix Lib.Math.abs.name Lib.Math.abs.code 1 := by
  rcases h with ⟨h, -⟩ | ⟨h, -⟩ | ⟨h, -⟩ | ⟨h, -⟩ | ⟨-, h⟩
  · omega
  · omega
  · omega
  · omega
  · exact h
theorem r_runV (G : CallFix p m c cc nL s args lw_good own) (B : sB D lay nc ad ca S s H locs) (hlay : ∀ k, (lay k).1 < 7 → k < nc) {ix na : Nat} {md : mT} {st : List Value} (hK : KO own ix 0 na md) (hc : cOk lay md.2.2.2.2.1 na st = true) {r : Option Value} {S1 : sS} (hM : sM l D lay nc ad ca md.1 md.2.1 md.2.2.1 md.2.2.2.1 d (st.take (na + 1)).reverse S r S1) (hsize : ls.size = nL) (hR : d + 1 ≤ R.frames ∧ 40 * (d + 1) ≤ R.locals) (hcs : cells ≤ R.cells ∧ slots ≤ R.slots) (hdg : decode cc pc = .ok (.invokevirtual ix, 3)) :
    ∃ a, va_Run p l e R s m args below meth c H locs cells slots 0 0 (F0 m pc ls (st.map (trV ad))) ((st.drop (na + 1)).map (trV ad)) (sQ D lay nc ad ca H.size r S1 a) (sA nc ad H.size) := by
  obtain ⟨-, hcd, hini, hdd, hn, hml, him, C, T, N, hcl, hse⟩ := hK
  unfold cOk at hc
  rw [Bool.and_eq_true, Bool.and_eq_true] at hc
  obtain ⟨⟨h1, h2⟩, h3⟩ := hc
  have hlen := Nat.le_of_ble_eq_true h1
  cases hr : (st.take (na + 1)).reverse with
  | nil => rw [hr] at h3; cases h3
  | cons v As =>
    rw [hr] at h3 hM
    cases v with
    | ref k =>
      have hl0 := layIs_at h3
      have hk := hlay k (by rw [hl0]; exact Nat.zero_lt_succ 6)
      have hAs : (As.map (trV ad)).length = na := by
        have q := congrArg List.length hr
        simp [Nat.min_eq_left hlen] at q
        simpa using q.symm
      have hst : st.map (trV ad) = (As.map (trV ad)).reverse ++ .ref (ad k) :: (st.drop (na + 1)).map (trV ad) := by
        have q : st.take (na + 1) = As.reverse ++ [Value.ref k] := by rw [← List.reverse_reverse (st.take (na + 1)), hr]; simp
        have q2 : st = (As.reverse ++ [Value.ref k]) ++ st.drop (na + 1) := by rw [← q]; exact (List.take_append_drop _ _).symm
        conv => lhs; rw [q2]
        simp [List.map_append, List.map_reverse, trV]
      have cb : CallB R s args own ix md.1 md.2.1 md.2.2.1 md.2.2.2.1 (Cond.code md.1 md.2.1 md.2.2.1 md.2.2.2.1 :: lw_good) (rmD d) 0 0 na := callB_of na G.2.2.2.2 (good_into hcd) rfl rfl rfl (G.2.2.2.2 _ hini) (G.2.2.2.2 _ hml) hdd ⟨hR.1, by have := hR.2; show 8 + (md.2.2.1 + 11) + 40 * d ≤ R.locals; omega⟩
      refine ⟨_, va_runV (As := As.map (trV ad)) (rest := (st.drop (na + 1)).map (trV ad)) G (hM H.size) ⟨cb, G.2.2.2.2 _ him, G.2.2.2.2 _ hse⟩ ⟨sPre_blind, r_recv B hl0 hk hcl, sB_pre B⟩ rfl hAs hsize hst (lv_room ?_) hdg ⟨hcs.1, hcs.2⟩⟩
      have h2 := Nat.le_of_ble_eq_true h2
      rw [List.map_map]
      have e : ((fun v : Value => v.category) ∘ trV ad) = fun v : Value => v.category := funext fun v => trV_cat
      rw [e]
      exact h2
    | _ => cases h3
theorem r_runT (G : CallFix p m c cc nL s args lw_good own) (B : sB D lay nc ad ca S s H locs) {ix na : Nat} {md : mT} {st : List Value} (hK : KO own ix 4 na md) (hc : cOkT na st = true) {r : Option Value} {S1 : sS} (hM : sM l D lay nc ad ca md.1 md.2.1 md.2.2.1 md.2.2.2.1 d (st.take (na + 1)).reverse S r S1) (hsize : ls.size = nL) (hR : d + 1 ≤ R.frames ∧ 40 * (d + 1) ≤ R.locals) (hcs : cells ≤ R.cells ∧ slots ≤ R.slots) (hdg : decode cc pc = .ok (.invokevirtual ix, 3)) :
    ∃ a, va_Run p l e R s m args below meth c H locs cells slots 0 0 (F0 m pc ls (st.map (trV ad))) ((st.drop (na + 1)).map (trV ad)) (sQ D lay nc ad ca H.size r S1 a) (sA nc ad H.size) := by
  obtain ⟨-, hcd, hini, hdd, hn, hml, him, hse⟩ := hK
  unfold cOkT at hc
  rw [Bool.and_eq_true, Bool.and_eq_true] at hc
  obtain ⟨⟨h1, h2⟩, h3⟩ := hc
  have hlen := Nat.le_of_ble_eq_true h1
  cases hr : (st.take (na + 1)).reverse with
  | nil => rw [hr] at h3; cases h3
  | cons v As =>
    rw [hr] at h3 hM
    cases v with
    | ref k =>
      rw [Bool.and_eq_true] at h3
      obtain ⟨q0, hq0⟩ := Option.isSome_iff_exists.mp h3.2
      have hO := (B.2.2.2.2.2.2.2 _ q0 hq0).2.1
      rw [Nat.add_sub_cancel' (Nat.le_of_ble_eq_true h3.1)] at hO
      obtain ⟨cB, o1, o2, o3, -⟩ := hO.kept B.2.2.2.1.2.1
      have hAs : (As.map (trV ad)).length = na := by
        have q := congrArg List.length hr
        simp [Nat.min_eq_left hlen] at q
        simpa using q.symm
      have hst : st.map (trV ad) = (As.map (trV ad)).reverse ++ .ref (ad k) :: (st.drop (na + 1)).map (trV ad) := by
        have q : st.take (na + 1) = As.reverse ++ [Value.ref k] := by rw [← List.reverse_reverse (st.take (na + 1)), hr]; simp
        have q2 : st = (As.reverse ++ [Value.ref k]) ++ st.drop (na + 1) := by rw [← q]; exact (List.take_append_drop _ _).symm
        conv => lhs; rw [q2]
        simp [List.map_append, List.map_reverse, trV]
      have cb : CallB R s args own ix md.1 md.2.1 md.2.2.1 md.2.2.2.1 (Cond.code md.1 md.2.1 md.2.2.1 md.2.2.2.1 :: lw_good) (rmD d) 0 0 na := callB_of na G.2.2.2.2 (good_into hcd) rfl rfl rfl (G.2.2.2.2 _ hini) (G.2.2.2.2 _ hml) hdd ⟨hR.1, by have := hR.2; show 8 + (md.2.2.1 + 11) + 40 * d ≤ R.locals; omega⟩
      refine ⟨_, va_runV (As := As.map (trV ad)) (rest := (st.drop (na + 1)).map (trV ad)) G (hM H.size) ⟨cb, G.2.2.2.2 _ him, G.2.2.2.2 _ hse⟩ ⟨sPre_blind, ⟨cB, o1, o2, o3⟩, sB_pre B⟩ rfl hAs hsize hst (lv_room ?_) hdg ⟨hcs.1, hcs.2⟩⟩
      have h2 := Nat.le_of_ble_eq_true h2
      rw [List.map_map]
      have e : ((fun v : Value => v.category) ∘ trV ad) = fun v : Value => v.category := funext fun v => trV_cat
      rw [e]
      exact h2
    | _ => cases h3
theorem r_stS {X : List Value} (h2 : Nat.ble (X.map (fun v => v.category)).sum 8 = true) : ((X.map (trV ad)).map (fun v => v.category)).sum ≤ 8 := by
  rw [List.map_map]
  have e : ((fun v : Value => v.category) ∘ trV ad) = fun v : Value => v.category := funext fun v => trV_cat
  rw [e]
  exact Nat.le_of_ble_eq_true h2
theorem r_runS (G : CallFix p m c cc nL s args lw_good own) (B : sB D lay nc ad ca S s H locs) {ix na : Nat} {md : mT} {st : List Value} (hK : KO own ix 1 na md) (hc : cOkS na st = true) {r : Option Value} {S1 : sS} (hM : sM l D lay nc ad ca md.1 md.2.1 md.2.2.1 md.2.2.2.1 d (st.take na).reverse S r S1) (hsize : ls.size = nL) (hR : d + 1 ≤ R.frames ∧ 40 * (d + 1) ≤ R.locals) (hcs : cells ≤ R.cells ∧ slots ≤ R.slots) (hdg : decode cc pc = .ok (.invokestatic ix, 3)) :
    ∃ a, va_Run p l e R s m args below meth c H locs cells slots 0 0 (F0 m pc ls (st.map (trV ad))) ((st.drop na).map (trV ad)) (sQ D lay nc ad ca H.size r S1 a) (sA nc ad H.size) := by
  obtain ⟨-, hcd, hini, hdd, hn, hml, hstt⟩ := hK
  unfold cOkS at hc
  rw [Bool.and_eq_true] at hc
  have hlen := Nat.le_of_ble_eq_true hc.1
  have hAs : ((st.take na).reverse.map (trV ad)).length = na := by simp [Nat.min_eq_left hlen]
  have hst : st.map (trV ad) = ((st.take na).reverse.map (trV ad)).reverse ++ (st.drop na).map (trV ad) := by
    rw [← List.map_reverse, List.reverse_reverse, ← List.map_append, List.take_append_drop]
  have cb : CallB R s args own ix md.1 md.2.1 md.2.2.1 md.2.2.2.1 (Cond.code md.1 md.2.1 md.2.2.1 md.2.2.2.1 :: lw_good) (rmD d) 0 0 na := callB_of na G.2.2.2.2 (good_into hcd) rfl rfl rfl (G.2.2.2.2 _ hini) (G.2.2.2.2 _ hml) hdd ⟨hR.1, by have := hR.2; show 8 + (md.2.2.1 + 11) + 40 * d ≤ R.locals; omega⟩
  exact ⟨_, va_runS (As := (st.take na).reverse.map (trV ad)) (rest := (st.drop na).map (trV ad)) G (hM H.size) ⟨cb, G.2.2.2.2 _ hstt⟩ ⟨sPre_blind, sB_pre B⟩ rfl hAs hsize hst (lv_room (r_stS hc.2)) hdg ⟨hcs.1, hcs.2⟩⟩
theorem r_runN (G : CallFix p m c cc nL s args lw_good own) (B : sB D lay nc ad ca S s H locs) {ix na : Nat} {md : mT} {st : List Value} (hK : KO own ix 3 na md) (hc : cOkS na st = true) {r : Option Value} {S1 : sS} (hM : sM l D lay nc ad ca md.1 md.2.1 md.2.2.1 md.2.2.2.1 d (st.take na).reverse S r S1) (hsize : ls.size = nL) (hR : d + 1 ≤ R.frames ∧ 40 * (d + 1) ≤ R.locals) (hcs : cells ≤ R.cells ∧ slots ≤ R.slots) (hdg : decode cc pc = .ok (.invokestatic ix, 3)) :
    ∃ a, va_Run p l e R s m args below meth c H locs cells slots 0 0 (F0 m pc ls (st.map (trV ad))) ((st.drop na).map (trV ad)) (sQ D lay nc ad ca H.size r S1 a) (sA nc ad H.size) := by
  obtain ⟨-, hcd, hini, hdd, hn, hstt, host, hml⟩ := hK
  unfold cOkS at hc
  rw [Bool.and_eq_true] at hc
  have hlen := Nat.le_of_ble_eq_true hc.1
  have hAs : ((st.take na).reverse.map (trV ad)).length = na := by simp [Nat.min_eq_left hlen]
  have hst : st.map (trV ad) = ((st.take na).reverse.map (trV ad)).reverse ++ (st.drop na).map (trV ad) := by
    rw [← List.map_reverse, List.reverse_reverse, ← List.map_append, List.take_append_drop]
  have cb := va_cnB (R := R) (own := own) (host := host) (index := ix) (rm := rmD d) (mc := 0) (ms := 0) na G.2.2.2.2 (good_into hcd) rfl rfl rfl (B.2.2.2.2.1 _ hml) (G.2.2.2.2 _ hini) hdd ⟨hR.1, by have := hR.2; show 8 + (md.2.2.1 + 11) + 40 * d ≤ R.locals; omega⟩
  exact ⟨_, va_runSN (As := (st.take na).reverse.map (trV ad)) (rest := (st.drop na).map (trV ad)) G (hM H.size) ⟨cb, G.2.2.2.2 _ hstt, trivial⟩ ⟨sPre_blind, sB_pre B⟩ rfl hAs hsize hst (lv_room (r_stS hc.2)) hdg ⟨hcs.1, hcs.2⟩⟩
theorem sE_v1 {k : Nat} {g : Nat → Int32} : ∀ i, i ≠ k → sE lay ad ca (va_up S.1 k g, S.2.1, S.2.2) i = sE lay ad ca S i := by
  intro i hi
  have e : va_up S.1 k g i = S.1 i := va_up_ne _ _ hi
  unfold sE sO
  simp only [e]
theorem sE_v2 {k : Nat} {g : Nat → Int64} : ∀ i, i ≠ k → sE lay ad ca (S.1, va_up S.2.1 k g, S.2.2) i = sE lay ad ca S i := by
  intro i hi
  have e : va_up S.2.1 k g i = S.2.1 i := va_up_ne _ _ hi
  unfold sE sO
  simp only [e]
theorem r_copy (G : CallFix p m c cc nL s args lw_good own) (B : sB D lay nc ad ca S s H locs) (hlay : ∀ k, (lay k).1 < 7 → k < nc) {ix a b : Nat} {sp dp n : Int32} {r : List Value} {S1 : sS} (hC : CP own ix) (hr : Nat.ble (r.map (fun v => v.category)).sum 8 = true) (hsize : ls.size = nL) (h : acp lay S a sp b dp n = some S1) (hR : d + 1 ≤ R.frames ∧ 40 * (d + 1) ≤ R.locals) (hdg : decode cc pc = .ok (.invokestatic ix, 3))
    (kk : ∀ (H : Heap) (locs : List Loc), sB D lay nc ad ca S1 s H locs → W p l e R s m args below meth c H locs cells slots Q (F0 m (pc + 3) ls (r.map (trV ad)))) : W p l e R s m args below meth c H locs cells slots Q (F0 m pc ls (.int n :: .int dp :: .ref (ad b) :: .int sp :: .ref (ad a) :: r.map (trV ad))) := by
  unfold acp at h
  obtain ⟨hb, h⟩ := bif_s h
  simp only [Bool.and_eq_true, decide_eq_true_eq] at hb
  obtain ⟨⟨n1, n2, n3⟩, b1, b2⟩ := hb
  have b1 := Nat.le_of_ble_eq_true b1
  have b2 := Nat.le_of_ble_eq_true b2
  have hloc : ((r.map (trV ad)).map fun v => v.category).sum + (nativeFrameWords "java/lang/System" "arraycopy" 5 + 11) ≤ R.locals := by
    have h1 := r_stS (ad := ad) hr
    have h2 : nativeFrameWords "java/lang/System" "arraycopy" 5 + 11 ≤ 30 := by decide +kernel
    have h3 := hR.2
    omega
  have hfr : 1 ≤ R.frames := Nat.le_trans (Nat.succ_le_succ (Nat.zero_le _)) hR.1
  cases h1 : Nat.beq (lay a).1 1 && Nat.beq (lay b).1 1 with
  | true =>
    rw [h1] at h
    cases h
    rw [Bool.and_eq_true] at h1
    have ha := lay_tag h1.1
    have hbb := lay_tag h1.2
    have hka := hlay a (by rw [ha]; simp)
    have hkb := hlay b (by rw [hbb]; simp)
    refine va_copyi (D := D) G.1 G.2.1 (G.2.2.1.trans hsize.symm) G.2.2.2.1 (G.2.2.2.2 _ hC.1) (G.2.2.2.2 _ hC.2.1) (G.2.2.2.2 _ hC.2.2.1) (G.2.2.2.2 _ hC.2.2.2) B.1 B.2.1 B.2.2.1 B.2.2.2.1 a b 0 0 (f := S.1 a) (g := S.1 b) (ty := .int) (by rw [sW_at hka, sE_is ha]) (by rw [sW_at hkb, sE_is hbb]) rfl rfl rfl n1 n2 n3 b1 b2 (fun _ _ => rfl) hfr hloc hdg (fun H1 locs1 hP hD hS => ?_)
    have e := sW_set (lay := lay) (nc := nc) (ad := ad) (ca := ca) (S := S) (S' := (va_up S.1 b (va_cpy (S.1 a) (S.1 b) sp.toNatClampNeg dp.toNatClampNeg n.toNatClampNeg), S.2.1, S.2.2)) hkb (e := .inl (ca 1, (lay b).2, .inl (va_cpy (S.1 a) (S.1 b) sp.toNatClampNeg dp.toNatClampNeg n.toNatClampNeg))) (by rw [sE_is hbb]; simp only [va_up_self]) sE_v1
    rw [e] at hP hD
    exact kk H1 locs1 ⟨B.1, hP, hD, hS, B.2.2.2.2⟩
  | false =>
    rw [h1] at h
    cases h2 : Nat.beq (lay a).1 2 && Nat.beq (lay b).1 2 with
    | true =>
      rw [h2] at h
      cases h
      rw [Bool.and_eq_true] at h2
      have ha := lay_tag h2.1
      have hbb := lay_tag h2.2
      have hka := hlay a (by rw [ha]; simp)
      have hkb := hlay b (by rw [hbb]; simp)
      refine va_copyl (D := D) G.1 G.2.1 (G.2.2.1.trans hsize.symm) G.2.2.2.1 (G.2.2.2.2 _ hC.1) (G.2.2.2.2 _ hC.2.1) (G.2.2.2.2 _ hC.2.2.1) (G.2.2.2.2 _ hC.2.2.2) B.1 B.2.1 B.2.2.1 B.2.2.2.1 a b 1 1 (f := S.2.1 a) (g := S.2.1 b) (ty := .long) (by rw [sW_at hka, sE_ls ha]) (by rw [sW_at hkb, sE_ls hbb]) rfl rfl rfl n1 n2 n3 b1 b2 (fun _ _ => rfl) hfr hloc hdg (fun H1 locs1 hP hD hS => ?_)
      have e := sW_set (lay := lay) (nc := nc) (ad := ad) (ca := ca) (S := S) (S' := (S.1, va_up S.2.1 b (va_cpy (S.2.1 a) (S.2.1 b) sp.toNatClampNeg dp.toNatClampNeg n.toNatClampNeg), S.2.2)) hkb (e := .inl (ca 2, (lay b).2, .inr (.inl (va_cpy (S.2.1 a) (S.2.1 b) sp.toNatClampNeg dp.toNatClampNeg n.toNatClampNeg)))) (by rw [sE_ls hbb]; simp only [va_up_self]) sE_v2
      rw [e] at hP hD
      exact kk H1 locs1 ⟨B.1, hP, hD, hS, B.2.2.2.2⟩
    | false =>
      rw [h2] at h
      obtain ⟨h3, h⟩ := bif_s (show (bif _ then _ else none) = some _ from h)
      cases h
      rw [Bool.and_eq_true, Bool.and_eq_true] at h3
      obtain ⟨⟨h3, h4⟩, h5⟩ := h3
      have ha := lay_tag h3
      have hbb := lay_tag h4
      have hka := hlay a (by rw [ha]; simp)
      have hkb := hlay b (by rw [hbb]; simp)
      refine va_copyi (D := D) G.1 G.2.1 (G.2.2.1.trans hsize.symm) G.2.2.2.1 (G.2.2.2.2 _ hC.1) (G.2.2.2.2 _ hC.2.1) (G.2.2.2.2 _ hC.2.2.1) (G.2.2.2.2 _ hC.2.2.2) B.1 B.2.1 B.2.2.1 B.2.2.2.1 a b 2 2 (f := S.1 a) (g := S.1 b) (ty := .byte) (by rw [sW_at hka, sE_bs ha]) (by rw [sW_at hkb, sE_bs hbb]) rfl rfl rfl n1 n2 n3 b1 b2 (fun i hi => List.all_eq_true.mp h5 i (List.mem_range.mpr hi)) hfr hloc hdg (fun H1 locs1 hP hD hS => ?_)
      have e := sW_set (lay := lay) (nc := nc) (ad := ad) (ca := ca) (S := S) (S' := (va_up S.1 b (va_cpy (S.1 a) (S.1 b) sp.toNatClampNeg dp.toNatClampNeg n.toNatClampNeg), S.2.1, S.2.2)) hkb (e := .inl (ca 3, (lay b).2, .inl (va_cpy (S.1 a) (S.1 b) sp.toNatClampNeg dp.toNatClampNeg n.toNatClampNeg))) (by rw [sE_bs hbb]; simp only [va_up_self]) sE_v1
      rw [e] at hP hD
      exact kk H1 locs1 ⟨B.1, hP, hD, hS, B.2.2.2.2⟩
end RN


