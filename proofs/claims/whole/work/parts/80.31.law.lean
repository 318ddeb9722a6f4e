/-! THE CLAIM OUT OF ONE WALK OF THE LAW'S BODY. Your part is whole_start (and what it stands on); all else here is the same for every law, but numbers. -/
def R_law : String := "RuleSentencesLaw"
def lw_P (b : Addr) (xs : List Int32) (args : Array Value) (s : State) : Prop := args = #[.ref b] ∧ s.IntsAt b xs ∧ xs.length ≤ 2048 ∧ (Jvm.Cond.and given_1 narrow_1).before args s = true
def lw_Q (_ : Array Value) (s : State) (o : Outcome) (t : State) : Prop := o = .returned (some (.int 1)) ∧ Framed s o t [] 600000 7302249
def lw_Z (below : List Frame) (a : Array Value) (s : State) : State → Prop := fun t => ∃ o, t.status = .running ∧ Ended t below o ∧ lw_Q a s o t
/-- the law's own end, with 1 on the stack, nothing written that was there before, its room as the claim has it -/
theorem lw_ret {p : Program} {l : Launch} {e : Env} {s : State} {m : MethodId} {below : List Frame} {meth : Method} {c : Code} {b : Nat} (hx : p.tables.exec = Jvm.exec) (hb : c.code = code) (hr : meth.sig.returnType = ret) (hlocks : meth.locks = false) {pc : Nat} {H : Heap} {ls : Array Slot} (hdg : decode code pc = .ok (.ireturn, 1)) : W p l e room_1 s m #[Value.ref b] below meth c H [] 600000 7302249 (lw_Z below #[Value.ref b] s) (F0 m pc ls [.int 1]) := by
  intro T hT X
  obtain ⟨fs, hret, hrun, hended, hW, hframe⟩ := X.leave (v := some (.int 1)) (hlocks := hlocks) (fun h => by rw [hr] at h; cases h)
  have hmeth' : T.vm.method? m = some meth := X.method'
  refine ⟨T.setFrames fs, ?_, .returned (some (.int 1)), hrun, hended, rfl, ⟨_, rfl⟩, hW, hframe⟩
  jvm_step X.here [X.here.top, hx, hb, hdg, hmeth', hr, ret, narrow_b1]
  (try refine ⟨rfl, ?_⟩); (try refine ⟨rfl, ?_⟩)
  first | (intro acts; rw [hret _ acts rfl rfl rfl]) | rw [hret _ _ rfl rfl rfl]
  exact Steps.refl _
/-- what holds at the law's entry: the machine, the code, the tables' words (any of lw_tbl by 'hts w (by decide +kernel)'), the script of L ints xs at the cell b, what the Statement gives of the start (any of its parts by flat_of_before) -/
def lw_At (p : Program) (s : State) (m : MethodId) (meth : Method) (c : Code) (b L : Nat) (xs : Nat → Int32) : Prop :=
  p.tables.exec = Jvm.exec ∧ c.code = code ∧ meth.sig.returnType = ret ∧ c.maxLocals = 4 ∧ s.vm.findClass R_law = some m.cls ∧ (∀ w ∈ lw_tbl, w.before #[Value.ref b] s = true) ∧ va_X b L xs s s.heap ∧ b < s.heap.size ∧ meth.locks = false ∧ (Jvm.Cond.and given_1 narrow_1).before #[Value.ref b] s = true
/-- the cells' addresses: new ones from h0 on, the script's, the strings' -/
def adA (h0 b : Nat) (f : Nat → Nat × Nat) : Nat → Nat := fun k => if k < 1900 then h0 + k else if k = 2300 then b else if k < 2100 then (f (k - 2000)).1 else (f (k - 2100)).2
theorem str_n {i : Nat} {q : String × Nat × String × List Int32} (h : strT[i]? = some q) : i < 72 := (List.getElem?_eq_some_iff.mp h).1
/-- the law's body, as the small machine runs it -/
def lawR (lay : Nat → Nat × Nat) (F d L : Nat) (xs : Nat → Int32) (S : sS) : Option (Option Value × sS × Nat × Nat) := runA lay (fun _ => none) (lkp cT_la) (lkp kT_la) (lkp cC_la) (lkp kI_la) 99 4 none true L xs (fun n => evd (layN lay n) F d) (evA lay F d) p_law F 0 0 0 [(0, .ref SCR)] [] S
/-- what the small machine answers, the law answers -/
theorem law_start {p : Program} {e : Env} {s : State} {m : MethodId} {below : List Frame} {meth : Method} {c : Code} (l : Launch) {b L : Nat} {xs : Nat → Int32} (C0 : lw_At p s m meth c b L xs) {lay : Nat → Nat × Nat} {F d n1 ss1 : Nat} {S S1 : sS} (hd : d + 1 ≤ 2048) (hn19 : n1 ≤ 1900) (hs1 : ss1 ≤ 7302249) (hrun : lawR lay F d L xs S = some (some (.int 1), S1, n1, ss1)) : W p l e room_1 s m #[Value.ref b] below meth c s.heap [] 0 0 (lw_Z below #[Value.ref b] s) (entryFrame m ([Value.ref b] : List Value).toArray 4) := by
  obtain ⟨hx, hb, hr, hml, hown, hts, hX, hbl, hlocks, hgv⟩ := C0
  have htg : ∀ w ∈ lw_good, w.before #[Value.ref b] s = true := fun w hw => hts w (List.mem_filter.mp hw).1
  have hA0 : ∀ a : Nat, a < s.heap.size → ¬ s.heap.size ≤ a := fun a h1 h2 => absurd h1 (Nat.not_lt.mpr h2)
  obtain ⟨f, hf⟩ := str_all (A := fun q => s.heap.size ≤ q) hts hgv hA0
  obtain ⟨D, hD⟩ := cls_all htg
  have hO := ov_all hts
  obtain ⟨ca, hca⟩ := arr_all htg hO
  have hZ := stat_all (A := fun q => s.heap.size ≤ q) hts hgv hA0
  have had : ∀ k, k < 1900 → adA s.heap.size b f k = s.heap.size + k := fun k hk => if_pos hk
  have hK : va_K D classes (sT ca) s := ⟨hD, hca⟩
  have hscr : adA s.heap.size b f SCR = b := rfl
  have eA : sA 0 (adA s.heap.size b f) s.heap.size = fun q => s.heap.size ≤ q := by
    funext q
    refine propext ⟨fun z => z.elim (fun ⟨k, hk, _⟩ => absurd hk (Nat.not_lt_zero _)) id, Or.inr⟩
  have G : CallFix p m c code 4 s #[Value.ref b] lw_good "RuleSentencesLaw" := ⟨hx, hb, hml, hown, htg⟩
  have hN : sX 0 (adA s.heap.size b f) s := by
    refine ⟨nest_all hts, ?_⟩
    rw [eA]
    refine ⟨hZ.1, hZ.2, fun i q hi => ?_⟩
    have hn := str_n hi
    have e1 : adA s.heap.size b f (SB + i) = (f i).1 := by
      have h1 : ¬ SB + i < 1900 := by unfold SB; omega
      have h2 : ¬ SB + i = 2300 := by unfold SB; omega
      have h3 : SB + i < 2100 := by unfold SB; omega
      have h4 : SB + i - 2000 = i := by unfold SB; omega
      unfold adA
      rw [if_neg h1, if_neg h2, if_pos h3, h4]
    have e2 : adA s.heap.size b f (SV + i) = (f i).2 := by
      have h1 : ¬ SV + i < 1900 := by unfold SV; omega
      have h2 : ¬ SV + i = 2300 := by unfold SV; omega
      have h3 : ¬ SV + i < 2100 := by unfold SV; omega
      have h4 : SV + i - 2100 = i := by unfold SV; omega
      unfold adA
      rw [if_neg h1, if_neg h2, if_neg h3, h4]
    rw [e1, e2]
    exact hf i q hi
  have hl := lv_entry [Value.ref b] (n := 4) (show 1 ≤ 4 by decide)
  rw [lg_entry_eq]
  have hge : ∀ n, n ≤ 1900 → ∀ q, sA n (adA s.heap.size b f) s.heap.size q → s.heap.size ≤ q := fun n h19 q z => z.elim (fun ⟨k, hk, hq⟩ => by rw [hq, had k (by omega)]; omega) id
  have main := runA_ok (l := l) (e := e) (below := below) (meth := meth) (D := D) (ca := ca) (ad := adA s.heap.size b f) (h0 := s.heap.size) (n0 := 0) (ss0 := 0) (d := d) (ow := 99) (sc := true) (L := L) (xs := xs) (ret := none) (r0 := some (.int 1)) (S0 := S1) (n1 := n1) (ss1 := ss1) (lay := lay) (R := room_1) (Q := lw_Z below #[Value.ref b] s) G q_law hO aOk (fL := fun _ => none) (cL := lkp cT_la) (kL := lkp kT_la) (cC := lkp cC_la) (kI := lkp kI_la) (fun ix ci j b z => nomatch z) (fun ix v z => cT_la_ok _ (lkp_mem z)) (fun ix kd md na z => kT_la_ok _ (lkp_mem z)) (fun ix ci z => cC_la_ok _ (lkp_mem z)) (fun ix kd md na z => kI_la_ok _ (lkp_mem z)) (Or.inr rfl)
    (fun _ => ⟨by rw [hscr]; exact hX, by rw [hscr]; exact hbl, fun n h19 z => absurd (hge n h19 _ z) (by rw [hscr]; omega)⟩) had rfl
    (callN := fun n => evd (layN lay n) F d) (callA := evA lay F d) (fun n _ md hmd av S r S1 hz => evd_ok layN_in d md hmd av S r S1 hz) (fun md hmd av S n ss r S1 n1 ss1 hn hz => evA_ok had d md hmd av S n ss r S1 n1 ss1 hn hz) ⟨hd, show 40 * (d + 1) ≤ 84000 by omega⟩ (show n1 - 0 ≤ 600000 by omega) (show ss1 - 0 ≤ 7302249 by omega)
    (fun pc ls H locs B1 he => by
      rcases he with ⟨hpc, -, -⟩ | ⟨-, -, z⟩
      · refine W.widen (k := 600000) (n := 7302249) (by omega) (by omega) (va_forget (fun q hq => ?_) (lw_ret hx hb hr hlocks (dOkA_n q_law hpc rfl)))
        have h3 := B1.2.2.2.1.2.2 q hq
        exact hge n1 hn19 _ h3
      · cases z) F 0 0 0 [(0, .ref SCR)] [] S (Nat.le_refl _) (Nat.le_refl _) (by decide) hrun
  have hP0 : va_P D classes (sW lay 0 (adA s.heap.size b f) ca S) s.heap := fun k q hk => nomatch (show ([] : List (Nat × va_E))[k]? = some q from hk)
  have hD0 : va_D (sA 0 (adA s.heap.size b f) s.heap.size) (sW lay 0 (adA s.heap.size b f) ca S) := ⟨fun i j p q h1 _ _ => (nomatch (show ([] : List (Nat × va_E))[i]? = some p from h1)), fun k q hk => nomatch (show ([] : List (Nat × va_E))[k]? = some q from hk)⟩
  exact main.2.2 _ s.heap [] hl ⟨hK, hP0, hD0, va_S.rf, hN⟩


