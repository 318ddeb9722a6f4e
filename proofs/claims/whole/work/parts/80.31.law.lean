/-! THE CLAIM OUT OF ONE WALK OF THE LAW'S BODY. Your part is whole_start (and what it stands on); all else here is the same for every law, but numbers. -/
def R_law : String := "RuleSentencesLaw"
def lw_P (b : Addr) (xs : List Int32) (args : Array Value) (s : State) : Prop := args = #[.ref b] ∧ s.IntsAt b xs ∧ xs.length ≤ 2048 ∧ (Jvm.Cond.and given_1 narrow_1).before args s = true
def lw_Q (_ : Array Value) (s : State) (o : Outcome) (t : State) : Prop := o = .returned (some (.int 1)) ∧ Framed s o t [] 600000 7302250
def lw_Z (below : List Frame) (a : Array Value) (s : State) : State → Prop := fun t => ∃ o, t.status = .running ∧ Ended t below o ∧ lw_Q a s o t
/-- the law's own end, with 1 on the stack, nothing written that was there before, its room as the claim has it -/
theorem lw_ret {p : Program} {l : Launch} {e : Env} {s : State} {m : MethodId} {below : List Frame} {meth : Method} {c : Code} {b : Nat} (hx : p.tables.exec = Jvm.exec) (hb : c.code = code) (hr : meth.sig.returnType = ret) (hlocks : meth.locks = false) {pc : Nat} {H : Heap} {ls : Array Slot} (hdg : decode code pc = .ok (.ireturn, 1)) : W p l e room_1 s m #[Value.ref b] below meth c H [] 600000 7302250 (lw_Z below #[Value.ref b] s) (F0 m pc ls [.int 1]) := by
  intro T hT X
  obtain ⟨fs, hret, hrun, hended, hW, hframe⟩ := X.leave (v := some (.int 1)) (hlocks := hlocks) (fun h => by rw [hr] at h; cases h)
  have hmeth' : T.vm.method? m = some meth := X.method'
  refine ⟨T.setFrames fs, ?_, .returned (some (.int 1)), hrun, hended, rfl, ⟨_, rfl⟩, hW, hframe⟩
  jvm_step X.here [X.here.top, hx, hb, hdg, hmeth', hr, ret, narrow_b1]
  (try refine ⟨rfl, ?_⟩); (try refine ⟨rfl, ?_⟩)
  first | (intro acts; rw [hret _ acts rfl rfl rfl]) | rw [hret _ _ rfl rfl rfl]
  exact Steps.refl _
/-- what holds at the law's entry: the machine, the code, the tables' words (any of lw_tbl by 'hts w (by decide +kernel)'), the script of L ints xs at the cell b, what the Statement gives of the start (any of its parts by flat_of_before) -/
def lw_At (p : Program) (s : State) (m : MethodId) (meth : Method) (c : Code) (b L : Nat) (xs : Nat → Int32) : Prop :=
  p.tables.exec = Jvm.exec ∧ c.code = code ∧ meth.sig.returnType = ret ∧ c.maxLocals = 4 ∧ s.vm.findClass R_law = some m.cls ∧ (∀ w ∈ lw_tbl, w.before #[Value.ref b] s = true) ∧ va_X b L xs s s.heap ∧ b < s.heap.size ∧ meth.locks = false ∧ (Jvm.Cond.and given_1 narrow_1).before #[Value.ref b] s = true
/-- the cells' addresses: new ones from h0 on, the script's, the strings' -/
def adA (h0 b : Nat) (f : Nat → Nat × Nat) : Nat → Nat := fun k => if k < 1900 then h0 + k else if k = 2300 then b else if k < 2100 then (f (k - 2000)).1 else (f (k - 2100)).2
theorem str_n {i : Nat} {q : String × Nat × String × List Int32} (h : strT[i]? = some q) : i < 72 := (List.getElem?_eq_some_iff.mp h).1
def lvC : List (Nat × Value) := [(3, .int 0), (2, .ref 904), (1, .ref 0), (0, .ref SCR)]
theorem lv_pi {ad : Nat → Nat} : lvC.map (trL (fun k => ad (piC k))) = ([(3, .int 0), (2, .ref 922), (1, .ref 0), (0, .ref SCR)] : List (Nat × Value)).map (trL ad) := rfl
theorem st_pi {ad : Nat → Nat} : ([] : List Value).map (trV (fun k => ad (piC k))) = ([] : List Value).map (trV ad) := rfl
theorem lay_all : (List.range 1014).all (fun k => Nat.beq (layF k).1 (layR (piC k)).1 && Nat.beq (layF k).2 (layR (piC k)).2) = true := by decide +kernel
theorem lay_pi : ∀ k, k < 1014 → layF k = layR (piC k) := fun k hk => by
  have t := List.all_eq_true.mp lay_all k (List.mem_range.mpr hk)
  rw [Bool.and_eq_true] at t
  exact Prod.ext (Nat.eq_of_beq_eq_true t.1) (Nat.eq_of_beq_eq_true t.2)
theorem new_1 {sl : Nat} {xs : Nat → Int32} {S : sS} : stA layR (fun _ => none) (lkp cC_la) 99 true sl xs (.new 7) 0 0 0 [] S = some (1, 0 + nT 0, 3, [.ref 0], zC S 0) := by
  show (bif Nat.blt 0 90 && (layIs layR 0 0 0 && Nat.blt 0 1900) then some (1, 0 + nT 0, 3, [Value.ref 0], zC S 0) else none) = _
  rw [show (Nat.blt 0 90 && (layIs layR 0 0 0 && Nat.blt 0 1900)) = true from by decide +kernel]
  rfl
theorem new_2 {sl : Nat} {xs : Nat → Int32} {S : sS} : stA layR (fun _ => none) (lkp cC_la) 99 true sl xs (.new 10) 922 41082 8 [] S = some (923, 41082 + nT 12, 11, [.ref 922], zC S 922) := by
  show (bif Nat.blt 12 90 && (layIs layR 922 0 12 && Nat.blt 922 1900) then some (923, 41082 + nT 12, 11, [Value.ref 922], zC S 922) else none) = _
  rw [show (Nat.blt 12 90 && (layIs layR 922 0 12 && Nat.blt 922 1900)) = true from by decide +kernel]
  rfl
