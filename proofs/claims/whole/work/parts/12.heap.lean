/-! rows of the heap: fields, arrays, calls -/
section LH
variable {p : Program} {l : Launch} {e : Env} {R : Room} {s : State} {m : MethodId} {args : Array Value} {below : List Frame} {meth : Method} {c : Code} {H : Heap} {locs : List Loc} {cells slots : Nat} {Q : State → Prop}
variable {cc : ByteArray} {pc nL : Nat} {ls : Array Slot} {rest : List Value} {D : va_G} {lay : Nat → Nat × Nat} {nc : Nat} {ad ca : Nat → Nat} {S : sS} {own : String}
theorem sE_ob {k ci : Nat} (hl : lay k = (0, ci)) : sE lay ad ca S k = .inr (ci, sO ad S ci k) := by unfold sE; rw [hl]; rfl
theorem sE_is {k n : Nat} (hl : lay k = (1, n)) : sE lay ad ca S k = .inl (ca 1, n, .inl (S.1 k)) := by unfold sE; rw [hl]; rfl
theorem sE_ls {k n : Nat} (hl : lay k = (2, n)) : sE lay ad ca S k = .inl (ca 2, n, .inr (.inl (S.2.1 k))) := by unfold sE; rw [hl]; rfl
theorem sE_bs {k n : Nat} (hl : lay k = (3, n)) : sE lay ad ca S k = .inl (ca 3, n, .inl (S.1 k)) := by unfold sE; rw [hl]; rfl
theorem sE_zs {k n : Nat} (hl : lay k = (4, n)) : sE lay ad ca S k = .inl (ca 4, n, .inl (S.1 k)) := by unfold sE; rw [hl]; rfl
theorem sE_rs {k n : Nat} (hl : lay k = (5, n)) : sE lay ad ca S k = .inl (ca 5, n, .inr (.inr (.inr (.inr (fun i => (S.2.2 k i).map ad))))) := by unfold sE; rw [hl]; rfl
theorem sE_cs {k n : Nat} (hl : lay k = (6, n)) : sE lay ad ca S k = .inl (ca 6, n, .inr (.inr (.inr (.inr (fun i => (S.2.2 k i).map ad))))) := by unfold sE; rw [hl]; rfl
theorem sO_at {ci k j : Nat} (h : j < nT ci) : (sO ad S ci k)[j]? = some (sV ad (fT ci j) (S.1 k j) (S.2.1 k j) (S.2.2 k j)) := by
  unfold sO
  rw [List.getElem?_map, List.getElem?_range h]
  rfl
theorem r_get (G : CallFix p m c cc nL s args lw_good own) (B : sB D lay nc ad ca S s H locs) {index k ci j N : Nat} {C : String} {T : u_T} (hc : classes[ci]? = some (C, T, N)) (hi : ∀ w ∈ u_ws C T N, w ∈ lw_good) (hN : nT ci = N) (hl : lay k = (0, ci)) (hk : k < nc) (hj : j < N) (hf : Cond.fieldLink own index (T j).1 (T j).2.1 (T j).2.2.1 ∈ lw_good) {v : Value} (hv : sV ad (fT ci j) (S.1 k j) (S.2.1 k j) (S.2.2 k j) = v) (hdg : decode cc pc = .ok (.getfield index, 3))
    (kk : W p l e R s m args below meth c H locs cells slots Q (F0 m (pc + 3) ls (v :: rest))) : W p l e R s m args below meth c H locs cells slots Q (F0 m pc ls (.ref (ad k) :: rest)) :=
  va_get (D := D) G.1 G.2.1 G.2.2.2.2 hi G.2.2.2.1 B.1 B.2.1 k (by rw [sW_at hk, sE_ob hl]) hc j hj (G.2.2.2.2 _ hf) (fun _ h9 => h9) (by rw [sO_at (by rw [hN]; exact hj), hv]) hdg kk
theorem r_getN (G : CallFix p m c cc nL s args lw_good own) (B : sB D lay nc ad ca S s H locs) {index k ci j N : Nat} {C : String} {T : u_T} {host : String} (hc : classes[ci]? = some (C, T, N)) (hi : ∀ w ∈ u_ws C T N, w ∈ lw_good) (hN : nT ci = N) (hl : lay k = (0, ci)) (hk : k < nc) (hj : j < N) (hf : Cond.fieldLinkNest own index (T j).1 (T j).2.1 (T j).2.2.1 host ∈ sN) {v : Value} (hv : sV ad (fT ci j) (S.1 k j) (S.2.1 k j) (S.2.2 k j) = v) (hdg : decode cc pc = .ok (.getfield index, 3))
    (kk : W p l e R s m args below meth c H locs cells slots Q (F0 m (pc + 3) ls (v :: rest))) : W p l e R s m args below meth c H locs cells slots Q (F0 m pc ls (.ref (ad k) :: rest)) :=
  va_getN (D := D) G.1 G.2.1 G.2.2.2.2 hi G.2.2.2.1 B.1 B.2.1 k (by rw [sW_at hk, sE_ob hl]) hc j hj (va_Nw.use rfl (B.2.2.2.2.1 _ hf)) (fun _ h9 => h9) (by rw [sO_at (by rw [hN]; exact hj), hv]) hdg kk
theorem sO_uI {ci k j : Nat} {v : Int32} (hv : sV ad (fT ci j) v (S.2.1 k j) (S.2.2 k j) = .int v) : (sO ad S ci k).set j (.int v) = sO ad (uI S k j v) ci k := by
  have e : (uI S k j v).1 k = upd (S.1 k) j v := va_up_self _ _ _
  have h := sO_set (n := nT ci) (j := j) (g := fun i => sV ad (fT ci i) (S.1 k i) (S.2.1 k i) (S.2.2 k i)) (g' := fun i => sV ad (fT ci i) ((uI S k j v).1 k i) (S.2.1 k i) (S.2.2 k i)) (fun i hi => by
    show sV _ _ ((uI S k j v).1 k i) _ _ = sV _ _ (S.1 k i) _ _
    rw [e, pk_un hi])
  have h2 : sV ad (fT ci j) ((uI S k j v).1 k j) (S.2.1 k j) (S.2.2 k j) = .int v := by rw [e, pk_us]; exact hv
  show ((List.range (nT ci)).map _).set j (Value.int v) = _
  rw [← h2]
  exact h
theorem sO_uR {ci k j : Nat} {v : Option Nat} (hv : sV ad (fT ci j) (S.1 k j) (S.2.1 k j) v = va_rf (v.map ad)) : (sO ad S ci k).set j (va_rf (v.map ad)) = sO ad (uR S k j v) ci k := by
  have e : (uR S k j v).2.2 k = va_up (S.2.2 k) j v := va_up_self _ _ _
  have h := sO_set (n := nT ci) (j := j) (g := fun i => sV ad (fT ci i) (S.1 k i) (S.2.1 k i) (S.2.2 k i)) (g' := fun i => sV ad (fT ci i) (S.1 k i) (S.2.1 k i) ((uR S k j v).2.2 k i)) (fun i hi => by
    show sV _ _ _ _ ((uR S k j v).2.2 k i) = sV _ _ _ _ (S.2.2 k i)
    rw [e, va_up_ne _ _ hi])
  have h2 : sV ad (fT ci j) (S.1 k j) (S.2.1 k j) ((uR S k j v).2.2 k j) = va_rf (v.map ad) := by rw [e, va_up_self]; exact hv
  show ((List.range (nT ci)).map _).set j (va_rf (v.map ad)) = _
  rw [← h2]
  exact h
theorem r_putI (G : CallFix p m c cc nL s args lw_good own) (B : sB D lay nc ad ca S s H locs) {index k ci j N : Nat} {C : String} {T : u_T} {ty0 : Nat → FieldType} (hty : ∀ k, k < N → parseFieldDescriptor (T k).2.2.1 = some (ty0 k)) (hnm : ∀ a, a < N → ∀ b, b < N → a ≠ b → (T a).2.1 ≠ (T b).2.1) (hc : classes[ci]? = some (C, T, N)) (hi : ∀ w ∈ u_ws C T N, w ∈ lw_good) (hN : nT ci = N) (hl : lay k = (0, ci)) (hk : k < nc) (hj : j < N) (hf : Cond.fieldLink own index (T j).1 (T j).2.1 (T j).2.2.1 ∈ lw_good) (hfin : (T j).2.2.2 = false) {v : Int32} (hv : sV ad (fT ci j) v (S.2.1 k j) (S.2.2 k j) = .int v) (hn : narrow (ty0 j) (.int v) = .int v) (hfit : fits (ty0 j) (.int v) = true) (hdg : decode cc pc = .ok (.putfield index, 3))
    (kk : ∀ (H : Heap) (locs : List Loc), sB D lay nc ad ca (uI S k j v) s H locs → W p l e R s m args below meth c H locs cells slots Q (F0 m (pc + 3) ls rest)) : W p l e R s m args below meth c H locs cells slots Q (F0 m pc ls (.int v :: .ref (ad k) :: rest)) := by
  have he : (sW lay nc ad ca S)[k]? = some (ad k, .inr (ci, sO ad S ci k)) := by rw [sW_at hk, sE_ob hl]
  refine va_put (D := D) (ty := ty0 j) G.1 G.2.1 G.2.2.2.2 hi ty0 hty hnm G.2.2.2.1 B.1 B.2.1 B.2.2.1 B.2.2.2.1 k he hc j hj (G.2.2.2.2 _ hf) (fun _ h9 => h9) hfin (hty j hj) hn hfit (by unfold sO; simpa [hN] using hj) hdg (fun H1 locs1 hP hD hS => ?_)
  have e := sW_set (lay := lay) (nc := nc) (ad := ad) (ca := ca) (S := S) (S' := uI S k j v) hk (e := .inr (ci, (sO ad S ci k).set j (.int v))) (by rw [sE_ob hl, sO_uI hv]) sE_uI
  rw [e] at hP hD
  exact kk H1 locs1 ⟨B.1, hP, hD, hS, B.2.2.2.2⟩
theorem r_iald (G : CallFix p m c cc nL s args lw_good own) (B : sB D lay nc ad ca S s H locs) {k n : Nat} (hl : lay k = (1, n)) (hk : k < nc) {i : Int32} (hin : vp_in i n) (hdg : decode cc pc = .ok (.iaload, 1))
    (kk : W p l e R s m args below meth c H locs cells slots Q (F0 m (pc + 1) ls (.int (S.1 k i.toNatClampNeg) :: rest))) : W p l e R s m args below meth c H locs cells slots Q (F0 m pc ls (.int i :: .ref (ad k) :: rest)) :=
  va_iald (D := D) G.1 G.2.1 B.1 B.2.1 k 0 (by rw [sW_at hk, sE_is hl]) rfl hin hdg kk
theorem r_lald (G : CallFix p m c cc nL s args lw_good own) (B : sB D lay nc ad ca S s H locs) {k n : Nat} (hl : lay k = (2, n)) (hk : k < nc) {i : Int32} (hin : vp_in i n) (hdg : decode cc pc = .ok (.laload, 1))
    (kk : W p l e R s m args below meth c H locs cells slots Q (F0 m (pc + 1) ls (.long (S.2.1 k i.toNatClampNeg) :: rest))) : W p l e R s m args below meth c H locs cells slots Q (F0 m pc ls (.int i :: .ref (ad k) :: rest)) :=
  va_lald (D := D) G.1 G.2.1 B.1 B.2.1 k 1 (by rw [sW_at hk, sE_ls hl]) rfl hin hdg kk
theorem r_bald (G : CallFix p m c cc nL s args lw_good own) (B : sB D lay nc ad ca S s H locs) {k n : Nat} (hl : lay k = (3, n)) (hk : k < nc) {i : Int32} (hin : vp_in i n) (hdg : decode cc pc = .ok (.baload, 1))
    (kk : W p l e R s m args below meth c H locs cells slots Q (F0 m (pc + 1) ls (.int (S.1 k i.toNatClampNeg) :: rest))) : W p l e R s m args below meth c H locs cells slots Q (F0 m pc ls (.int i :: .ref (ad k) :: rest)) :=
  va_bald (D := D) G.1 G.2.1 B.1 B.2.1 k 2 (by rw [sW_at hk, sE_bs hl]) rfl hin hdg kk
theorem r_zald (G : CallFix p m c cc nL s args lw_good own) (B : sB D lay nc ad ca S s H locs) {k n : Nat} (hl : lay k = (4, n)) (hk : k < nc) {i : Int32} (hin : vp_in i n) (hdg : decode cc pc = .ok (.baload, 1))
    (kk : W p l e R s m args below meth c H locs cells slots Q (F0 m (pc + 1) ls (.int (S.1 k i.toNatClampNeg) :: rest))) : W p l e R s m args below meth c H locs cells slots Q (F0 m pc ls (.int i :: .ref (ad k) :: rest)) :=
  va_zald (D := D) G.1 G.2.1 B.1 B.2.1 k 3 (by rw [sW_at hk, sE_zs hl]) rfl hin hdg kk
theorem r_iast (G : CallFix p m c cc nL s args lw_good own) (B : sB D lay nc ad ca S s H locs) {k n : Nat} (hl : lay k = (1, n)) (hk : k < nc) {i x : Int32} (hin : vp_in i n) (hdg : decode cc pc = .ok (.iastore, 1))
    (kk : ∀ (H : Heap) (locs : List Loc), sB D lay nc ad ca (uI S k i.toNatClampNeg x) s H locs → W p l e R s m args below meth c H locs cells slots Q (F0 m (pc + 1) ls rest)) : W p l e R s m args below meth c H locs cells slots Q (F0 m pc ls (.int x :: .int i :: .ref (ad k) :: rest)) := by
  refine va_iast (D := D) G.1 G.2.1 B.1 B.2.1 B.2.2.1 B.2.2.2.1 k 0 (n := n) (f := S.1 k) (by rw [sW_at hk, sE_is hl]) rfl hin hdg (fun H1 locs1 hP hD hS => ?_)
  have e := sW_set (lay := lay) (nc := nc) (ad := ad) (ca := ca) (S := S) (S' := uI S k i.toNatClampNeg x) hk (e := .inl (ca 1, n, .inl (upd (S.1 k) i.toNatClampNeg x))) (by rw [sE_is hl]; unfold uI; simp only [va_up_self]) sE_uI
  rw [e] at hP hD
  exact kk H1 locs1 ⟨B.1, hP, hD, hS, B.2.2.2.2⟩
theorem r_last (G : CallFix p m c cc nL s args lw_good own) (B : sB D lay nc ad ca S s H locs) {k n : Nat} (hl : lay k = (2, n)) (hk : k < nc) {i : Int32} {x : Int64} (hin : vp_in i n) (hdg : decode cc pc = .ok (.lastore, 1))
    (kk : ∀ (H : Heap) (locs : List Loc), sB D lay nc ad ca (uJ S k i.toNatClampNeg x) s H locs → W p l e R s m args below meth c H locs cells slots Q (F0 m (pc + 1) ls rest)) : W p l e R s m args below meth c H locs cells slots Q (F0 m pc ls (.long x :: .int i :: .ref (ad k) :: rest)) := by
  refine va_last (D := D) G.1 G.2.1 B.1 B.2.1 B.2.2.1 B.2.2.2.1 k 1 (n := n) (f := S.2.1 k) (by rw [sW_at hk, sE_ls hl]) rfl hin hdg (fun H1 locs1 hP hD hS => ?_)
  have e := sW_set (lay := lay) (nc := nc) (ad := ad) (ca := ca) (S := S) (S' := uJ S k i.toNatClampNeg x) hk (e := .inl (ca 2, n, .inr (.inl (vp_updL (S.2.1 k) i.toNatClampNeg x)))) (by rw [sE_ls hl]; unfold uJ; simp only [va_up_self]) sE_uJ
  rw [e] at hP hD
  exact kk H1 locs1 ⟨B.1, hP, hD, hS, B.2.2.2.2⟩
theorem r_bast (G : CallFix p m c cc nL s args lw_good own) (B : sB D lay nc ad ca S s H locs) {k n : Nat} (hl : lay k = (3, n)) (hk : k < nc) {i x : Int32} (hin : vp_in i n) (hdg : decode cc pc = .ok (.bastore, 1))
    (kk : ∀ (H : Heap) (locs : List Loc), sB D lay nc ad ca (uI S k i.toNatClampNeg (vp_nar .byte x)) s H locs → W p l e R s m args below meth c H locs cells slots Q (F0 m (pc + 1) ls rest)) : W p l e R s m args below meth c H locs cells slots Q (F0 m pc ls (.int x :: .int i :: .ref (ad k) :: rest)) := by
  refine va_bast (D := D) G.1 G.2.1 B.1 B.2.1 B.2.2.1 B.2.2.2.1 k 2 (n := n) (f := S.1 k) (by rw [sW_at hk, sE_bs hl]) rfl hin hdg (fun H1 locs1 hP hD hS => ?_)
  have e := sW_set (lay := lay) (nc := nc) (ad := ad) (ca := ca) (S := S) (S' := uI S k i.toNatClampNeg (vp_nar .byte x)) hk (e := .inl (ca 3, n, .inl (upd (S.1 k) i.toNatClampNeg (vp_nar .byte x)))) (by rw [sE_bs hl]; unfold uI; simp only [va_up_self]) sE_uI
  rw [e] at hP hD
  exact kk H1 locs1 ⟨B.1, hP, hD, hS, B.2.2.2.2⟩
theorem r_zast (G : CallFix p m c cc nL s args lw_good own) (B : sB D lay nc ad ca S s H locs) {k n : Nat} (hl : lay k = (4, n)) (hk : k < nc) {i x : Int32} (hin : vp_in i n) (hdg : decode cc pc = .ok (.bastore, 1))
    (kk : ∀ (H : Heap) (locs : List Loc), sB D lay nc ad ca (uI S k i.toNatClampNeg (vp_nar .boolean x)) s H locs → W p l e R s m args below meth c H locs cells slots Q (F0 m (pc + 1) ls rest)) : W p l e R s m args below meth c H locs cells slots Q (F0 m pc ls (.int x :: .int i :: .ref (ad k) :: rest)) := by
  refine va_zast (D := D) G.1 G.2.1 B.1 B.2.1 B.2.2.1 B.2.2.2.1 k 3 (n := n) (f := S.1 k) (by rw [sW_at hk, sE_zs hl]) rfl hin hdg (fun H1 locs1 hP hD hS => ?_)
  have e := sW_set (lay := lay) (nc := nc) (ad := ad) (ca := ca) (S := S) (S' := uI S k i.toNatClampNeg (vp_nar .boolean x)) hk (e := .inl (ca 4, n, .inl (upd (S.1 k) i.toNatClampNeg (vp_nar .boolean x)))) (by rw [sE_zs hl]; unfold uI; simp only [va_up_self]) sE_uI
  rw [e] at hP hD
  exact kk H1 locs1 ⟨B.1, hP, hD, hS, B.2.2.2.2⟩
/-- an object's class, for a call -/
theorem r_recv (B : sB D lay nc ad ca S s H locs) {k ci N : Nat} {C : String} {T : u_T} (hl : lay k = (0, ci)) (hk : k < nc) (hc : classes[ci]? = some (C, T, N)) : ∃ cellB : Cell, H[ad k]? = some cellB ∧ cellB.vm.isStatics = false ∧ s.vm.findClass C = some cellB.cls :=
  va_recv B.1 B.2.1 (ci := ci) (q0 := k) hc (by rw [sW_at hk, sE_ob hl])
end LH


