/-! the good words of the tables; contracts and rows of the layer -/
def lw_good : List Cond := lw_tbl.filter goodWord
theorem good_at (i : Nat) {w : Cond} (h : tables_1[i]? = some w) (hg : goodWord w = true) : w ∈ lw_good := List.mem_filter.mpr ⟨List.mem_append_right _ (List.mem_of_getElem? h), hg⟩
theorem gt_1 {w : Cond} (h : w ∈ tables_1_1) : w ∈ tables_1 := List.mem_append_left _ h
theorem ga_1 (i : Nat) {w : Cond} (h : tables_1_1[i]? = some w) (hg : goodWord w = true) : w ∈ lw_good := List.mem_filter.mpr ⟨List.mem_append_right _ (gt_1 (List.mem_of_getElem? h)), hg⟩
theorem gt_2 {w : Cond} (h : w ∈ tables_1_2) : w ∈ tables_1 := List.mem_append_right _ (List.mem_append_left _ h)
theorem ga_2 (i : Nat) {w : Cond} (h : tables_1_2[i]? = some w) (hg : goodWord w = true) : w ∈ lw_good := List.mem_filter.mpr ⟨List.mem_append_right _ (gt_2 (List.mem_of_getElem? h)), hg⟩
theorem gt_3 {w : Cond} (h : w ∈ tables_1_3) : w ∈ tables_1 := List.mem_append_right _ (List.mem_append_right _ (List.mem_append_left _ h))
theorem ga_3 (i : Nat) {w : Cond} (h : tables_1_3[i]? = some w) (hg : goodWord w = true) : w ∈ lw_good := List.mem_filter.mpr ⟨List.mem_append_right _ (gt_3 (List.mem_of_getElem? h)), hg⟩
theorem gt_4 {w : Cond} (h : w ∈ tables_1_4) : w ∈ tables_1 := List.mem_append_right _ (List.mem_append_right _ (List.mem_append_right _ (List.mem_append_left _ h)))
theorem ga_4 (i : Nat) {w : Cond} (h : tables_1_4[i]? = some w) (hg : goodWord w = true) : w ∈ lw_good := List.mem_filter.mpr ⟨List.mem_append_right _ (gt_4 (List.mem_of_getElem? h)), hg⟩
theorem gt_5 {w : Cond} (h : w ∈ tables_1_5) : w ∈ tables_1 := List.mem_append_right _ (List.mem_append_right _ (List.mem_append_right _ (List.mem_append_right _ (List.mem_append_left _ h))))
theorem ga_5 (i : Nat) {w : Cond} (h : tables_1_5[i]? = some w) (hg : goodWord w = true) : w ∈ lw_good := List.mem_filter.mpr ⟨List.mem_append_right _ (gt_5 (List.mem_of_getElem? h)), hg⟩
theorem gt_6 {w : Cond} (h : w ∈ tables_1_6) : w ∈ tables_1 := List.mem_append_right _ (List.mem_append_right _ (List.mem_append_right _ (List.mem_append_right _ (List.mem_append_right _ (List.mem_append_left _ h)))))
theorem ga_6 (i : Nat) {w : Cond} (h : tables_1_6[i]? = some w) (hg : goodWord w = true) : w ∈ lw_good := List.mem_filter.mpr ⟨List.mem_append_right _ (gt_6 (List.mem_of_getElem? h)), hg⟩
theorem gt_7 {w : Cond} (h : w ∈ tables_1_7) : w ∈ tables_1 := List.mem_append_right _ (List.mem_append_right _ (List.mem_append_right _ (List.mem_append_right _ (List.mem_append_right _ (List.mem_append_right _ (List.mem_append_left _ h))))))
theorem ga_7 (i : Nat) {w : Cond} (h : tables_1_7[i]? = some w) (hg : goodWord w = true) : w ∈ lw_good := List.mem_filter.mpr ⟨List.mem_append_right _ (gt_7 (List.mem_of_getElem? h)), hg⟩
theorem gt_8 {w : Cond} (h : w ∈ tables_1_8) : w ∈ tables_1 := List.mem_append_right _ (List.mem_append_right _ (List.mem_append_right _ (List.mem_append_right _ (List.mem_append_right _ (List.mem_append_right _ (List.mem_append_right _ (List.mem_append_left _ h)))))))
theorem ga_8 (i : Nat) {w : Cond} (h : tables_1_8[i]? = some w) (hg : goodWord w = true) : w ∈ lw_good := List.mem_filter.mpr ⟨List.mem_append_right _ (gt_8 (List.mem_of_getElem? h)), hg⟩
theorem gt_9 {w : Cond} (h : w ∈ tables_1_9) : w ∈ tables_1 := List.mem_append_right _ (List.mem_append_right _ (List.mem_append_right _ (List.mem_append_right _ (List.mem_append_right _ (List.mem_append_right _ (List.mem_append_right _ (List.mem_append_right _ (List.mem_append_left _ h))))))))
theorem ga_9 (i : Nat) {w : Cond} (h : tables_1_9[i]? = some w) (hg : goodWord w = true) : w ∈ lw_good := List.mem_filter.mpr ⟨List.mem_append_right _ (gt_9 (List.mem_of_getElem? h)), hg⟩
theorem gt_10 {w : Cond} (h : w ∈ tables_1_10) : w ∈ tables_1 := List.mem_append_right _ (List.mem_append_right _ (List.mem_append_right _ (List.mem_append_right _ (List.mem_append_right _ (List.mem_append_right _ (List.mem_append_right _ (List.mem_append_right _ (List.mem_append_right _ (List.mem_append_left _ h)))))))))
theorem ga_10 (i : Nat) {w : Cond} (h : tables_1_10[i]? = some w) (hg : goodWord w = true) : w ∈ lw_good := List.mem_filter.mpr ⟨List.mem_append_right _ (gt_10 (List.mem_of_getElem? h)), hg⟩
theorem gt_11 {w : Cond} (h : w ∈ tables_1_11) : w ∈ tables_1 := List.mem_append_right _ (List.mem_append_right _ (List.mem_append_right _ (List.mem_append_right _ (List.mem_append_right _ (List.mem_append_right _ (List.mem_append_right _ (List.mem_append_right _ (List.mem_append_right _ (List.mem_append_right _ (List.mem_append_left _ h))))))))))
theorem ga_11 (i : Nat) {w : Cond} (h : tables_1_11[i]? = some w) (hg : goodWord w = true) : w ∈ lw_good := List.mem_filter.mpr ⟨List.mem_append_right _ (gt_11 (List.mem_of_getElem? h)), hg⟩
theorem gt_12 {w : Cond} (h : w ∈ tables_1_12) : w ∈ tables_1 := List.mem_append_right _ (List.mem_append_right _ (List.mem_append_right _ (List.mem_append_right _ (List.mem_append_right _ (List.mem_append_right _ (List.mem_append_right _ (List.mem_append_right _ (List.mem_append_right _ (List.mem_append_right _ (List.mem_append_right _ (List.mem_append_left _ h)))))))))))
theorem ga_12 (i : Nat) {w : Cond} (h : tables_1_12[i]? = some w) (hg : goodWord w = true) : w ∈ lw_good := List.mem_filter.mpr ⟨List.mem_append_right _ (gt_12 (List.mem_of_getElem? h)), hg⟩
theorem gt_13 {w : Cond} (h : w ∈ tables_1_13) : w ∈ tables_1 := List.mem_append_right _ (List.mem_append_right _ (List.mem_append_right _ (List.mem_append_right _ (List.mem_append_right _ (List.mem_append_right _ (List.mem_append_right _ (List.mem_append_right _ (List.mem_append_right _ (List.mem_append_right _ (List.mem_append_right _ (List.mem_append_right _ (h))))))))))))
theorem ga_13 (i : Nat) {w : Cond} (h : tables_1_13[i]? = some w) (hg : goodWord w = true) : w ∈ lw_good := List.mem_filter.mpr ⟨List.mem_append_right _ (gt_13 (List.mem_of_getElem? h)), hg⟩
theorem good_ps {ws : List Cond} (ps : List Nat) (h : ws = ps.filterMap (fun i => tables_1[i]?)) (hg : ws.all goodWord = true) : ∀ w ∈ ws, w ∈ lw_good := by
  intro w hw
  have h1 := List.all_eq_true.mp hg w hw
  rw [h] at hw
  obtain ⟨i, -, hi⟩ := List.mem_filterMap.mp hw
  exact good_at i hi h1
theorem good_sel {q : MethodName × Nat} (h : q ∈ lw_privs) (hg : goodWord (Cond.selects q.1.cls q.1 q.1) = true) : Cond.selects q.1.cls q.1 q.1 ∈ lw_good := List.mem_filter.mpr ⟨List.mem_append_left _ (List.mem_map.mpr ⟨q, h, rfl⟩), hg⟩
theorem good_into {x : Cond} (hx : x ∈ lw_good) : GoodIn lw_good (x :: lw_good) := by
  intro w hw
  have h : w ∈ lw_good := (List.mem_cons.mp hw).elim (fun e => e ▸ hx) id
  exact ⟨h, good_of_word (List.mem_filter.mp h).2⟩
/-- the nest mates' links: not among the good words, carried beside them -/
def sN : List Cond := lw_tbl.filter (fun w => match w with | .fieldLinkNest .. => true | .methodLinkNest .. => true | _ => false)
def sNw (U : State) : Prop := ∀ w ∈ sN, va_Nw w U
theorem sNw.moved {s U : State} (hW : s.WarmedH U.vm) (h : sNw s) : sNw U := by
  intro w hw
  have h1 := h w hw
  have h2 := (List.mem_filter.mp hw).2
  cases w with
  | fieldLinkNest a i b n d x => exact va_Nw.warmF hW h1
  | methodLinkNest a i x y => exact va_Nw.warmM hW h1
  | _ => simp at h2
theorem sNw.same {u U : State} (hv : u.vm = U.vm) (h : sNw u) : sNw U := by
  intro w hw
  have h1 := h w hw
  have h2 := (List.mem_filter.mp hw).2
  cases w with
  | fieldLinkNest a i b n d x => exact va_Nw.same rfl hv h1
  | methodLinkNest a i x y => exact va_Nw.same rfl hv h1
  | _ => simp at h2
/-- what is carried beside the cells: nest mates' links, String constants -/
def sX (nc : Nat) (ad : Nat → Nat) (s : State) : Prop := sNw s ∧ sStr (sA nc ad s.heap.size) ad s s.heap
theorem sA_mono {nc : Nat} {ad : Nat → Nat} {a b q : Nat} (h : a ≤ b) (hq : sA nc ad b q) : sA nc ad a q := hq.elim Or.inl (fun z => Or.inr (Nat.le_trans h z))
theorem sX.to {nc : Nat} {ad : Nat → Nat} {s U : State} {H : Heap} {locs : List Loc} (hS : va_S (sA nc ad s.heap.size) s.heap H locs) (hU : U.heap = H) (hW : s.WarmedH U.vm) (h : sX nc ad s) : sX nc ad U :=
  ⟨h.1.moved hW, by rw [hU]; exact h.2.to hW hS.2.1 (fun q hq => sA_mono hS.1 hq)⟩
section LY
variable {p : Program} {l : Launch} {e : Env} {R : Room} {s : State} {m : MethodId} {args : Array Value} {below : List Frame} {meth : Method} {c : Code} {H : Heap} {locs : List Loc} {cells slots : Nat} {Q : State → Prop}
variable {cc : ByteArray} {pc nL : Nat} {ls : Array Slot} {rest : List Value} {D : va_G} {lay : Nat → Nat × Nat} {nc : Nat} {ad ca : Nat → Nat} {S : sS} {own : String}
/-- the world at a point of a method: the side's cells hold S -/
def sB (D : va_G) (lay : Nat → Nat × Nat) (nc : Nat) (ad ca : Nat → Nat) (S : sS) (s : State) (H : Heap) (locs : List Loc) : Prop :=
  va_K D classes (sT ca) s ∧ va_P D classes (sW lay nc ad ca S) H ∧ va_D (sA nc ad s.heap.size) (sW lay nc ad ca S) ∧ va_S (sA nc ad s.heap.size) s.heap H locs ∧ sX nc ad s
def sPre (D : va_G) (lay : Nat → Nat × Nat) (nc : Nat) (ad ca : Nat → Nat) (S : sS) (sz : Nat) (av : List Value) : Array Value → State → Prop :=
  va_Pc av (fun U => U.heap.size = sz ∧ va_P D classes (sW lay nc ad ca S) U.heap ∧ va_K D classes (sT ca) U ∧ va_D (fun _ => True) (sW lay nc ad ca S) ∧ sX nc ad U)
def sAt (D : va_G) (lay : Nat → Nat × Nat) (nc : Nat) (ad ca : Nat → Nat) (sz : Nat) (S : sS) (t : State) : Prop :=
  va_P D classes (sW lay nc ad ca S) t.heap ∧ va_K D classes (sT ca) t ∧ va_D (sA nc ad sz) (sW lay nc ad ca S)
def rmD (d : Nat) : Room := { frames := d, cells := 0, slots := 0, locals := 40 * d }
theorem sPre_blind {sz : Nat} {av : List Value} : FrameBlind (sPre D lay nc ad ca S sz av) := by
  intro a U g mk q
  obtain ⟨q0, q1, qP, qK, qD, qN⟩ := q
  exact ⟨q0, q1, qP, va_K.moved (u := U) (U := U.calling g mk a) (Vm.Alike.refl U.vm) qK, qD, sNw.same (u := U) (U := U.calling g mk a) rfl qN.1, sStr.same (s := U) (U := U.calling g mk a) rfl qN.2⟩
theorem sB_pre (B : sB D lay nc ad ca S s H locs) {av : List Value} : ∀ U : State, U.heap = H → s.WarmedH U.vm → sPre D lay nc ad ca S H.size av av.toArray U :=
  fun U hU hW => ⟨rfl, by rw [hU], by rw [hU]; exact B.2.1, va_K.moved hW.alike B.1, B.2.2.1.weaken (fun _ _ _ _ => trivial), B.2.2.2.2.to B.2.2.2.1 hU hW⟩
theorem sB_back (B : sB D lay nc ad ca S s H locs) {S1 : sS} {t : State} {H1 : Heap} {locs1 : List Loc} (ht : t.heap = H1) (hvm : s.vm.Alike t.vm) (hB : sAt D lay nc ad ca H.size S1 t) (hS : va_S (sA nc ad s.heap.size) s.heap H1 locs1) : sB D lay nc ad ca S1 s H1 locs1 := by
  refine ⟨B.1, by rw [← ht]; exact hB.1, hB.2.2.weaken (fun k q _ h => sA_mono B.2.2.2.1.1 h), hS, B.2.2.2.2⟩
end LY


