/-! THE START: strings, classes, arrays -/
def sCs (q : String × Nat × String × List Int32) : List Cond := Cond.exactly (.string q.1 q.2.1) "java/lang/String" :: Cond.eq (.field (.string q.1 q.2.1) "java/lang/String" "coder" "B") (.int 0) :: Cond.arrayOf (.field (.string q.1 q.2.1) "java/lang/String" "value" "[B") .byte :: Cond.eq (.length (.field (.string q.1 q.2.1) "java/lang/String" "value" "[B")) (.int (Int32.ofNat q.2.2.2.length)) :: (List.range q.2.2.2.length).map (fun j => Cond.eq (.elem (.field (.string q.1 q.2.1) "java/lang/String" "value" "[B") (.int (Int32.ofNat j))) (.int (q.2.2.2.getD j 0)))
def nIs : Cond → Bool
  | .eq (.string _ _) (.string _ _) => false
  | _ => true
set_option maxRecDepth 100000 in
theorem str_flat : ((flatC (Cond.and given_1 narrow_1)).filter nIs).drop 9 = strT.flatMap sCs := by decide +kernel
theorem str_cs {args : Array Value} {s : State} (h : (Cond.and given_1 narrow_1).before args s = true) : ∀ q ∈ strT, ∀ c ∈ sCs q, c.before args s = true := by
  intro q hq c hc
  have h1 : c ∈ strT.flatMap sCs := List.mem_flatMap.mpr ⟨q, hq, hc⟩
  rw [← str_flat] at h1
  exact flat_of_before _ h c (List.mem_filter.mp (List.mem_of_mem_drop h1)).1
theorem str_ref : ∀ q ∈ strT, Cond.stringRef q.1 q.2.1 q.2.2.1 ∈ lw_tbl := List.forall_mem_cons.mpr ⟨List.mem_append_right _ (gt_2 (List.mem_of_getElem? (i := 52) rfl)), List.forall_mem_cons.mpr ⟨List.mem_append_right _ (gt_3 (List.mem_of_getElem? (i := 190) rfl)), List.forall_mem_cons.mpr ⟨List.mem_append_right _ (gt_3 (List.mem_of_getElem? (i := 191) rfl)), List.forall_mem_cons.mpr ⟨List.mem_append_right _ (gt_3 (List.mem_of_getElem? (i := 211) rfl)), List.forall_mem_cons.mpr ⟨List.mem_append_right _ (gt_3 (List.mem_of_getElem? (i := 212) rfl)), List.forall_mem_cons.mpr ⟨List.mem_append_right _ (gt_3 (List.mem_of_getElem? (i := 213) rfl)), List.forall_mem_cons.mpr ⟨List.mem_append_right _ (gt_3 (List.mem_of_getElem? (i := 214) rfl)), List.forall_mem_cons.mpr ⟨List.mem_append_right _ (gt_3 (List.mem_of_getElem? (i := 215) rfl)), List.forall_mem_cons.mpr ⟨List.mem_append_right _ (gt_3 (List.mem_of_getElem? (i := 216) rfl)), List.forall_mem_cons.mpr ⟨List.mem_append_right _ (gt_3 (List.mem_of_getElem? (i := 217) rfl)), List.forall_mem_cons.mpr ⟨List.mem_append_right _ (gt_3 (List.mem_of_getElem? (i := 218) rfl)), List.forall_mem_cons.mpr ⟨List.mem_append_right _ (gt_3 (List.mem_of_getElem? (i := 219) rfl)), List.forall_mem_cons.mpr ⟨List.mem_append_right _ (gt_3 (List.mem_of_getElem? (i := 220) rfl)), List.forall_mem_cons.mpr ⟨List.mem_append_right _ (gt_3 (List.mem_of_getElem? (i := 221) rfl)), List.forall_mem_cons.mpr ⟨List.mem_append_right _ (gt_3 (List.mem_of_getElem? (i := 222) rfl)), List.forall_mem_cons.mpr ⟨List.mem_append_right _ (gt_3 (List.mem_of_getElem? (i := 223) rfl)), List.forall_mem_cons.mpr ⟨List.mem_append_right _ (gt_3 (List.mem_of_getElem? (i := 228) rfl)), List.forall_mem_cons.mpr ⟨List.mem_append_right _ (gt_3 (List.mem_of_getElem? (i := 229) rfl)), List.forall_mem_cons.mpr ⟨List.mem_append_right _ (gt_3 (List.mem_of_getElem? (i := 230) rfl)), List.forall_mem_cons.mpr ⟨List.mem_append_right _ (gt_3 (List.mem_of_getElem? (i := 231) rfl)), List.forall_mem_cons.mpr ⟨List.mem_append_right _ (gt_3 (List.mem_of_getElem? (i := 232) rfl)), List.forall_mem_cons.mpr ⟨List.mem_append_right _ (gt_3 (List.mem_of_getElem? (i := 233) rfl)), List.forall_mem_cons.mpr ⟨List.mem_append_right _ (gt_3 (List.mem_of_getElem? (i := 238) rfl)), List.forall_mem_cons.mpr ⟨List.mem_append_right _ (gt_3 (List.mem_of_getElem? (i := 239) rfl)), List.forall_mem_cons.mpr ⟨List.mem_append_right _ (gt_4 (List.mem_of_getElem? (i := 0) rfl)), List.forall_mem_cons.mpr ⟨List.mem_append_right _ (gt_4 (List.mem_of_getElem? (i := 1) rfl)), List.forall_mem_cons.mpr ⟨List.mem_append_right _ (gt_4 (List.mem_of_getElem? (i := 2) rfl)), List.forall_mem_cons.mpr ⟨List.mem_append_right _ (gt_4 (List.mem_of_getElem? (i := 7) rfl)), List.forall_mem_cons.mpr ⟨List.mem_append_right _ (gt_4 (List.mem_of_getElem? (i := 21) rfl)), List.forall_mem_cons.mpr ⟨List.mem_append_right _ (gt_4 (List.mem_of_getElem? (i := 32) rfl)), List.forall_mem_cons.mpr ⟨List.mem_append_right _ (gt_4 (List.mem_of_getElem? (i := 33) rfl)), List.forall_mem_cons.mpr ⟨List.mem_append_right _ (gt_4 (List.mem_of_getElem? (i := 34) rfl)), List.forall_mem_cons.mpr ⟨List.mem_append_right _ (gt_4 (List.mem_of_getElem? (i := 35) rfl)), List.forall_mem_cons.mpr ⟨List.mem_append_right _ (gt_4 (List.mem_of_getElem? (i := 36) rfl)), List.forall_mem_cons.mpr ⟨List.mem_append_right _ (gt_4 (List.mem_of_getElem? (i := 37) rfl)), List.forall_mem_cons.mpr ⟨List.mem_append_right _ (gt_5 (List.mem_of_getElem? (i := 106) rfl)), List.forall_mem_cons.mpr ⟨List.mem_append_right _ (gt_8 (List.mem_of_getElem? (i := 79) rfl)), List.forall_mem_cons.mpr ⟨List.mem_append_right _ (gt_8 (List.mem_of_getElem? (i := 90) rfl)), List.forall_mem_cons.mpr ⟨List.mem_append_right _ (gt_8 (List.mem_of_getElem? (i := 91) rfl)), List.forall_mem_cons.mpr ⟨List.mem_append_right _ (gt_8 (List.mem_of_getElem? (i := 92) rfl)), List.forall_mem_cons.mpr ⟨List.mem_append_right _ (gt_8 (List.mem_of_getElem? (i := 93) rfl)), List.forall_mem_cons.mpr ⟨List.mem_append_right _ (gt_8 (List.mem_of_getElem? (i := 94) rfl)), List.forall_mem_cons.mpr ⟨List.mem_append_right _ (gt_8 (List.mem_of_getElem? (i := 106) rfl)), List.forall_mem_cons.mpr ⟨List.mem_append_right _ (gt_8 (List.mem_of_getElem? (i := 107) rfl)), List.forall_mem_cons.mpr ⟨List.mem_append_right _ (gt_8 (List.mem_of_getElem? (i := 108) rfl)), List.forall_mem_cons.mpr ⟨List.mem_append_right _ (gt_8 (List.mem_of_getElem? (i := 109) rfl)), List.forall_mem_cons.mpr ⟨List.mem_append_right _ (gt_8 (List.mem_of_getElem? (i := 110) rfl)), List.forall_mem_cons.mpr ⟨List.mem_append_right _ (gt_8 (List.mem_of_getElem? (i := 111) rfl)), List.forall_mem_cons.mpr ⟨List.mem_append_right _ (gt_8 (List.mem_of_getElem? (i := 112) rfl)), List.forall_mem_cons.mpr ⟨List.mem_append_right _ (gt_8 (List.mem_of_getElem? (i := 117) rfl)), List.forall_mem_cons.mpr ⟨List.mem_append_right _ (gt_8 (List.mem_of_getElem? (i := 118) rfl)), List.forall_mem_cons.mpr ⟨List.mem_append_right _ (gt_8 (List.mem_of_getElem? (i := 119) rfl)), List.forall_mem_cons.mpr ⟨List.mem_append_right _ (gt_8 (List.mem_of_getElem? (i := 124) rfl)), List.forall_mem_cons.mpr ⟨List.mem_append_right _ (gt_8 (List.mem_of_getElem? (i := 129) rfl)), List.forall_mem_cons.mpr ⟨List.mem_append_right _ (gt_8 (List.mem_of_getElem? (i := 130) rfl)), List.forall_mem_cons.mpr ⟨List.mem_append_right _ (gt_8 (List.mem_of_getElem? (i := 131) rfl)), List.forall_mem_cons.mpr ⟨List.mem_append_right _ (gt_8 (List.mem_of_getElem? (i := 132) rfl)), List.forall_mem_cons.mpr ⟨List.mem_append_right _ (gt_8 (List.mem_of_getElem? (i := 133) rfl)), List.forall_mem_cons.mpr ⟨List.mem_append_right _ (gt_8 (List.mem_of_getElem? (i := 137) rfl)), List.forall_mem_cons.mpr ⟨List.mem_append_right _ (gt_8 (List.mem_of_getElem? (i := 138) rfl)), List.forall_mem_cons.mpr ⟨List.mem_append_right _ (gt_8 (List.mem_of_getElem? (i := 139) rfl)), List.forall_mem_cons.mpr ⟨List.mem_append_right _ (gt_8 (List.mem_of_getElem? (i := 140) rfl)), List.forall_mem_cons.mpr ⟨List.mem_append_right _ (gt_8 (List.mem_of_getElem? (i := 141) rfl)), List.forall_mem_cons.mpr ⟨List.mem_append_right _ (gt_8 (List.mem_of_getElem? (i := 142) rfl)), List.forall_mem_cons.mpr ⟨List.mem_append_right _ (gt_8 (List.mem_of_getElem? (i := 143) rfl)), List.forall_mem_cons.mpr ⟨List.mem_append_right _ (gt_8 (List.mem_of_getElem? (i := 148) rfl)), List.forall_mem_cons.mpr ⟨List.mem_append_right _ (gt_8 (List.mem_of_getElem? (i := 149) rfl)), List.forall_mem_cons.mpr ⟨List.mem_append_right _ (gt_8 (List.mem_of_getElem? (i := 150) rfl)), List.forall_mem_cons.mpr ⟨List.mem_append_right _ (gt_8 (List.mem_of_getElem? (i := 151) rfl)), List.forall_mem_cons.mpr ⟨List.mem_append_right _ (gt_8 (List.mem_of_getElem? (i := 152) rfl)), List.forall_mem_cons.mpr ⟨List.mem_append_right _ (gt_8 (List.mem_of_getElem? (i := 153) rfl)), List.forall_mem_cons.mpr ⟨List.mem_append_right _ (gt_11 (List.mem_of_getElem? (i := 152) rfl)), all_nil⟩⟩⟩⟩⟩⟩⟩⟩⟩⟩⟩⟩⟩⟩⟩⟩⟩⟩⟩⟩⟩⟩⟩⟩⟩⟩⟩⟩⟩⟩⟩⟩⟩⟩⟩⟩⟩⟩⟩⟩⟩⟩⟩⟩⟩⟩⟩⟩⟩⟩⟩⟩⟩⟩⟩⟩⟩⟩⟩⟩⟩⟩⟩⟩⟩⟩⟩⟩⟩⟩⟩⟩
theorem str_of {args : Array Value} {s : State} {A : Nat → Prop} {q : String × Nat × String × List Int32} (hN : q.2.2.2.length < 2 ^ 31) (hs : ∀ c ∈ sCs q, c.before args s = true) (hr : (Cond.stringRef q.1 q.2.1 q.2.2.1).before args s = true) (hA : ∀ a : Nat, a < s.heap.size → ¬ A a) :
    ∃ x : Nat × Nat, vk_R q.1 q.2.1 q.2.2.1 x.1 s ∧ va_O "java/lang/String" x.1 A s s.heap ∧ va_OF "java/lang/String" "coder" "B" (.int 0) x.1 A s s.heap ∧ va_OF "java/lang/String" "value" "[B" (.ref x.2) x.1 A s s.heap ∧ va_T .byte x.2 q.2.2.2.length (fun j => .int (q.2.2.2.getD j 0)) A s s.heap := by
  have hex := hs _ (List.mem_cons_self ..)
  have hco := hs _ (List.mem_cons_of_mem _ (List.mem_cons_self ..))
  have har := hs _ (List.mem_cons_of_mem _ (List.mem_cons_of_mem _ (List.mem_cons_self ..)))
  have hle := hs _ (List.mem_cons_of_mem _ (List.mem_cons_of_mem _ (List.mem_cons_of_mem _ (List.mem_cons_self ..))))
  have hel : ∀ j : Nat, j < q.2.2.2.length → (Cond.eq (.elem (.field (.string q.1 q.2.1) "java/lang/String" "value" "[B") (.int (Int32.ofNat j))) (.int (q.2.2.2.getD j 0))).before args s = true := fun j hj => hs _ (List.mem_cons_of_mem _ (List.mem_cons_of_mem _ (List.mem_cons_of_mem _ (List.mem_cons_of_mem _ (List.mem_map.mpr ⟨j, List.mem_range.mpr hj, rfl⟩)))))
  obtain ⟨a, c, cA, kA, q1, q2, q3, q4, q5, q6, -⟩ := Cond.exactly_spec (args := args) (first := s) (o := none) (s := s) (idx := []) (t := .string q.1 q.2.1) (cls := "java/lang/String") hex
  obtain ⟨t, ht, hT⟩ := va_Tof (f := fun j => .int (q.2.2.2.getD j 0)) (A := A) hN har (va_eqt hle) (fun j hj => va_eqt (hel j hj)) hA
  exact ⟨(a, t), vk_R.of hr q1, ⟨cA, q3, q5, by rw [q6]; exact q2, hA a (Array.getElem?_eq_some_iff.mp q3).1⟩, vk_OFof q1 (va_eqt hco) hA, vk_OFof q1 ht hA, hT⟩
theorem str_len : ∀ q ∈ strT, q.2.2.2.length < 2 ^ 31 := by decide +kernel
theorem str_all {args : Array Value} {s : State} {A : Nat → Prop} (hts : ∀ w ∈ lw_tbl, w.before args s = true) (h : (Cond.and given_1 narrow_1).before args s = true) (hA : ∀ a : Nat, a < s.heap.size → ¬ A a) :
    ∃ f : Nat → Nat × Nat, ∀ (i : Nat) (q : String × Nat × String × List Int32), strT[i]? = some q → vk_R q.1 q.2.1 q.2.2.1 (f i).1 s ∧ va_O "java/lang/String" (f i).1 A s s.heap ∧ va_OF "java/lang/String" "coder" "B" (.int 0) (f i).1 A s s.heap ∧ va_OF "java/lang/String" "value" "[B" (.ref (f i).2) (f i).1 A s s.heap ∧ va_T .byte (f i).2 q.2.2.2.length (fun j => .int (q.2.2.2.getD j 0)) A s s.heap := by
  have h0 : ∀ i : Nat, ∃ x : Nat × Nat, ∀ q, strT[i]? = some q → vk_R q.1 q.2.1 q.2.2.1 x.1 s ∧ va_O "java/lang/String" x.1 A s s.heap ∧ va_OF "java/lang/String" "coder" "B" (.int 0) x.1 A s s.heap ∧ va_OF "java/lang/String" "value" "[B" (.ref x.2) x.1 A s s.heap ∧ va_T .byte x.2 q.2.2.2.length (fun j => .int (q.2.2.2.getD j 0)) A s s.heap := by
    intro i
    cases hq : strT[i]? with
    | none => exact ⟨(0, 0), fun q z => nomatch z⟩
    | some q =>
      have hm := List.mem_of_getElem? hq
      obtain ⟨x, hx⟩ := str_of (str_len q hm) (str_cs h q hm) (hts _ (str_ref q hm)) hA
      exact ⟨x, fun q2 z => by cases z; exact hx⟩
  exact Classical.axiomOfChoice h0
theorem cls_all {args : Array Value} {s : State} (hts : ∀ w ∈ lw_good, w.before args s = true) : ∃ D : va_G, ∀ (c : Nat) (q : vw_C), classes[c]? = some q → u_Kn s q.1 q.2.1 q.2.2 (D.1 c) (D.2 c) := by
  have h0 : ∀ c : Nat, ∃ x : ClassId × (Nat → Nat), ∀ q : vw_C, classes[c]? = some q → u_Kn s q.1 q.2.1 q.2.2 x.1 x.2 := by
    intro c
    match c with
    | 0 => obtain ⟨a, b, h⟩ := u_known hts i_rs (hts _ it_rs); exact ⟨(a, b), fun q z => by cases z; exact h⟩
    | 1 => obtain ⟨a, b, h⟩ := u_known hts i_vo (hts _ it_vo); exact ⟨(a, b), fun q z => by cases z; exact h⟩
    | 2 => obtain ⟨a, b, h⟩ := u_known hts i_wo (hts _ it_wo); exact ⟨(a, b), fun q z => by cases z; exact h⟩
    | 3 => obtain ⟨a, b, h⟩ := u_known hts i_bo (hts _ it_bo); exact ⟨(a, b), fun q z => by cases z; exact h⟩
    | 4 => obtain ⟨a, b, h⟩ := u_known hts i_cl (hts _ it_cl); exact ⟨(a, b), fun q z => by cases z; exact h⟩
    | 5 => obtain ⟨a, b, h⟩ := u_known hts i_to (hts _ it_to); exact ⟨(a, b), fun q z => by cases z; exact h⟩
    | 6 => obtain ⟨a, b, h⟩ := u_known hts i_co (hts _ it_co); exact ⟨(a, b), fun q z => by cases z; exact h⟩
    | 7 => obtain ⟨a, b, h⟩ := u_known hts i_gr (hts _ it_gr); exact ⟨(a, b), fun q z => by cases z; exact h⟩
    | 8 => obtain ⟨a, b, h⟩ := u_known hts i_re (hts _ it_re); exact ⟨(a, b), fun q z => by cases z; exact h⟩
    | 9 => obtain ⟨a, b, h⟩ := u_known hts i_me (hts _ it_me); exact ⟨(a, b), fun q z => by cases z; exact h⟩
    | 10 => obtain ⟨a, b, h⟩ := u_known hts i_rr (hts _ it_rr); exact ⟨(a, b), fun q z => by cases z; exact h⟩
    | 11 => obtain ⟨a, b, h⟩ := u_known hts i_tu (hts _ it_tu); exact ⟨(a, b), fun q z => by cases z; exact h⟩
    | 12 => obtain ⟨a, b, h⟩ := u_known hts i_mo (hts _ it_mo); exact ⟨(a, b), fun q z => by cases z; exact h⟩
    | k + 13 => exact ⟨(0, fun _ => 0), fun q z => nomatch (show (none : Option vw_C) = some _ from z)⟩
  obtain ⟨f, hf⟩ := Classical.axiomOfChoice h0
  exact ⟨(fun c => (f c).1, fun c => (f c).2), hf⟩
theorem ov_all {args : Array Value} {s : State} (hts : ∀ w ∈ lw_tbl, w.before args s = true) : sOv s := ⟨va_AO.of (hts _ (List.mem_append_right _ (gt_1 (List.mem_of_getElem? (i := 206) rfl)))), hts (Cond.arrayOver (.array .int)) (List.mem_append_right _ (gt_1 (List.mem_of_getElem? (i := 142) rfl)))⟩
theorem arr_of {args : Array Value} {s : State} {t : FieldType} (h : (Cond.arrayClass t).before args s = true) : ∃ cA : ClassId, ArrOfT s cA t ∧ s.vm.findClass ("[" ++ t.toString) = some cA := by
  obtain ⟨cA, kA, comp, h1, h2, h3⟩ := Cond.arrayClass_spec h
  exact ⟨cA, fun N z => ⟨(fun k h => by cases h), kA, h2, comp, h3⟩, h1⟩
theorem arr_all {args : Array Value} {s : State} (hts : ∀ w ∈ lw_good, w.before args s = true) (hO : sOv s) : ∃ ca : Nat → ClassId, ∀ (k : Nat) (q : ClassId × FieldType), (sT ca)[k]? = some q → ArrOfT s q.1 q.2 ∧ va_RA s q.1 q.2 := by
  obtain ⟨c1, a1, b1⟩ := arr_of (hts _ aOk.1)
  obtain ⟨c2, a2, b2⟩ := arr_of (hts _ aOk.2.1)
  obtain ⟨c3, a3, b3⟩ := arr_of (hts _ aOk.2.2.1)
  obtain ⟨c4, a4, b4⟩ := arr_of (hts _ aOk.2.2.2)
  obtain ⟨comp, c5, k5, f1, f2, f3, f4⟩ := Cond.arrayOver_specA hO.2
  obtain ⟨comp6, c6, k6, g1, g2, g3, g4, g5⟩ := Cond.arrayOver_spec hO.1
  refine ⟨fun t => match t with | 1 => c1 | 2 => c2 | 3 => c3 | 4 => c4 | 5 => c5 | _ => c6, fun k q hk => ?_⟩
  match k, hk with
  | 0, hk => cases hk; exact ⟨a1, b1⟩
  | 1, hk => cases hk; exact ⟨a2, b2⟩
  | 2, hk => cases hk; exact ⟨a3, b3⟩
  | 3, hk => cases hk; exact ⟨a4, b4⟩
  | 4, hk => cases hk; exact ⟨fun N z => ⟨(fun k h => by cases h), k5, f2, comp, f3⟩, f4⟩
  | 5, hk => cases hk; exact ⟨fun N z => ⟨(fun k h => by cases h), k6, g3, comp6, g4⟩, k6, comp6, g3, g4, g1, g5⟩
  | k + 6, hk => exact nomatch (show (none : Option (ClassId × FieldType)) = some _ from hk)
theorem nest_all {args : Array Value} {s : State} (hts : ∀ w ∈ lw_tbl, w.before args s = true) : sNw s := by
  intro w hw
  obtain ⟨h1, h2⟩ := List.mem_filter.mp hw
  have h3 := hts w h1
  cases w with
  | fieldLinkNest a i b n d x => exact va_Nw.of rfl h3
  | methodLinkNest a i x y => exact va_Nw.of rfl h3
  | _ => simp at h2
theorem stat_all {args : Array Value} {s : State} {A : Nat → Prop} (hts : ∀ w ∈ lw_tbl, w.before args s = true) (h : (Cond.and given_1 narrow_1).before args s = true) (hA : ∀ a : Nat, a < s.heap.size → ¬ A a) :
    va_Z "java/lang/String" "COMPACT_STRINGS" "Z" (.int 1) A s s.heap ∧ (∃ v : Value, (v = .null ∨ ∃ a, v = .ref a) ∧ va_Z "jdk/internal/util/Preconditions" "SIOOBE_FORMATTER" "Ljava/util/function/BiFunction;" v A s s.heap) := by
  have hs := flat_of_before _ h
  refine ⟨va_Zof (hts _ (List.mem_append_right _ (gt_2 (List.mem_of_getElem? (i := 62) rfl)))) (hts _ (List.mem_append_right _ (gt_1 (List.mem_of_getElem? (i := 7) rfl)))) (va_eqt (hs _ (List.mem_of_getElem? (i := 4) (by decide +kernel)))) hA, ?_⟩
  rcases va_Zqof (hts _ (List.mem_append_right _ (gt_2 (List.mem_of_getElem? (i := 78) rfl)))) (hts _ (List.mem_append_right _ (gt_1 (List.mem_of_getElem? (i := 9) rfl)))) (hs _ (List.mem_of_getElem? (i := 5) (by decide +kernel))) hA with q | ⟨t, q⟩
  · exact ⟨_, Or.inl rfl, q⟩
  · exact ⟨_, Or.inr ⟨t, rfl⟩, q⟩
