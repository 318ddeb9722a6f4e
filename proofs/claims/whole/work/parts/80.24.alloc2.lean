/-! MAKING CELLS: rows of ints, arrays of clauses; final fields -/
/-- (out of claim/NAMES.whole.lean.txt) -/
theorem vr_outer (c : ClassId) (N h0 : Nat) : ∀ i : Nat, Jvm.Free.Multi.outerC c N h0 i = arrV c N (fun j => va_rf (if j < i then some (h0 + 1 + j) else none))
  | 0 => by
    show ({ cls := c, slots := Array.replicate N .null, vm := .none } : Cell) = _
    rw [arrV_new]
    refine congrArg (arrV c N) (funext fun j => ?_)
    simp [va_rf]
  | i + 1 => by
    show (Jvm.Free.Multi.outerC c N h0 i).setSlot i (.ref (h0 + 1 + i)) = _
    rw [vr_outer c N h0 i, arrV_store]
    refine congrArg (arrV c N) (funext fun j => ?_)
    by_cases e : j = i
    · subst e
      simp [updV, va_rf]
    · by_cases h : j < i
      · simp [updV, e, h, Nat.lt_succ_of_lt h]
      · simp [updV, e, h, show ¬ j < i + 1 by omega]
section AM
variable {p : Program} {l : Launch} {e : Env} {R : Room} {s : State} {m : MethodId} {args : Array Value} {below : List Frame} {meth : Method} {c : Code} {H : Heap} {locs : List Loc} {cells slots : Nat} {Q : State → Prop}
variable {cc : ByteArray} {pc nL n : Nat} {ls : Array Slot} {rest : List Value} {D : va_G} {lay : Nat → Nat × Nat} {ad ca : Nat → Nat} {S : sS} {own : String}
/-- what is said of arrays over classes: not among the good words -/
def sAOA (U : State) : Prop := (Cond.arrayOver (.array .int)).before #[] U = true
def sOv (U : State) : Prop := va_AO "RuleSentences$Clause" U ∧ sAOA U
theorem sB_many {n2 h0 : Nat} {H1 : Heap} {S1 : sS} (B : sB D lay n ad ca S s H locs) (had : ∀ k, k < n2 → ad k = h0 + k) (hn : n ≤ n2) (hH : H.size = h0 + n) (hO : ∀ k, k < n → sE lay ad ca S1 k = sE lay ad ca S k) (hx : ∀ k, n ≤ k → k < n2 → va_at D classes (ad k, sE lay ad ca S1 k) H1) (z1 : H1.size = h0 + n2) (o1 : ∀ q, q < H.size → H1[q]? = H[q]?) : sB D lay n2 ad ca S1 s H1 locs := by
  have hsz : s.heap.size ≤ h0 + n := by rw [← hH]; exact B.2.2.2.1.1
  have eA : sA n2 ad s.heap.size = sA n ad s.heap.size := sA_up hn (fun k h1 h2 => by rw [had k h2]; omega)
  have hat : ∀ (k : Nat) (q : Nat × va_E), (sW lay n2 ad ca S1)[k]? = some q → k < n2 ∧ q = (ad k, sE lay ad ca S1 k) := fun k q hq => by
    have hk : k < n2 := by
      have := (List.getElem?_eq_some_iff.mp hq).1
      unfold sW at this
      simpa using this
    rw [sW_at hk] at hq
    exact ⟨hk, (Option.some.inj hq).symm⟩
  refine ⟨B.1, fun k q hq => ?_, ⟨fun i j x y hi hj hxy => ?_, fun k q hq => ?_⟩, ?_, ?_⟩
  · obtain ⟨hk, rfl⟩ := hat k q hq
    by_cases h : k < n
    · have h1 := B.2.1 k _ (sW_at h)
      rw [← hO k h] at h1
      exact h1.kept (o1 _ h1.lt)
    · exact hx k (by omega) hk
  · obtain ⟨h1, rfl⟩ := hat i x hi
    obtain ⟨h2, rfl⟩ := hat j y hj
    have h3 : ad i = ad j := hxy
    rw [had i h1, had j h2] at h3
    omega
  · obtain ⟨hk, rfl⟩ := hat k q hq
    exact Or.inl ⟨k, hk, rfl⟩
  · rw [eA]
    exact ⟨by omega, fun y h1 h2 => (o1 y (by omega)).trans (B.2.2.2.1.2.1 y h1 h2), B.2.2.2.1.2.2⟩
  · unfold sX
    rw [eA]
    exact B.2.2.2.2
/-- the state behind new int[N][K] -/
def zM (S : sS) (n N : Nat) : sS := (fun k => if n ≤ k ∧ k ≤ n + N then (fun _ => 0) else S.1 k, fun k => if n ≤ k ∧ k ≤ n + N then (fun _ => 0) else S.2.1 k, fun k => if k = n then (fun i => if i < N then some (n + 1 + i) else none) else if n ≤ k ∧ k ≤ n + N then (fun _ => none) else S.2.2 k)
theorem sE_zM {N : Nat} : ∀ k, k < n → sE lay ad ca (zM S n N) k = sE lay ad ca S k := by
  intro k hk
  have h1 : ¬ (n ≤ k ∧ k ≤ n + N) := by omega
  have h2 : ¬ k = n := by omega
  unfold sE sO zM
  simp only [h1, h2, if_false]
theorem r_mna (G : CallFix p m c cc nL s args lw_good own) (B : sB D lay n ad ca S s H locs) (hOv : sOv s) {h0 N K : Nat} (had : ∀ k, k < n + 1 + N → ad k = h0 + k) (hH : H.size = h0 + n) {index : Nat} {x y : Int32} (hl : lay n = (5, N)) (hr : ∀ i, i < N → lay (n + 1 + i) = (1, K)) (hx0 : ¬ x < 0) (hy0 : ¬ y < 0) (hN : x.toNatClampNeg = N) (hK : y.toNatClampNeg = K) (hNb : Nat.ble N 1000000 = true) (hKb : Nat.ble K 1000000 = true) (hcl : Cond.classLink own index "[[I" ∈ lw_good) (harr : Cond.arrayClass .int ∈ lw_good) (hcells : cells + (1 + N) ≤ R.cells) (hslots : slots + (N + N * K) ≤ R.slots) (hdg : decode cc pc = .ok (.multianewarray index 2, 4))
    (kk : ∀ (H1 : Heap), sB D lay (n + 1 + N) ad ca (zM S n N) s H1 locs → W p l e R s m args below meth c H1 locs (cells + (1 + N)) (slots + (N + N * K)) Q (F0 m (pc + 4) ls (.ref (ad n) :: rest))) : W p l e R s m args below meth c H locs cells slots Q (F0 m pc ls (.int y :: .int x :: rest)) := by
  have hNb := Nat.le_of_ble_eq_true hNb
  have hKb := Nat.le_of_ble_eq_true hKb
  subst hN
  subst hK
  intro T hT Xs
  obtain ⟨vm₁, cA, comp, -, fA, fC, hO, -, X', step⟩ := Xs.multianewarray2F G.1 G.2.2.2.1 (G.2.2.2.2 _ hcl) (show (Cond.arrayOver (.array .int)).before _ s = true from hOv.2) (G.2.2.2.2 _ harr) (g := F0 m pc ls (.int y :: .int x :: rest)) rfl (by rw [G.2.1]; exact hdg) rfl hx0 hy0 (by omega) (by show _ * 4 ≤ _; omega) (by omega) rfl rfl hcells hslots
  have ec : comp = ca 1 := Option.some.inj (fC.symm.trans (B.1.2 0 _ rfl).2)
  have ea : cA = ca 5 := Option.some.inj (fA.symm.trans (B.1.2 4 _ rfl).2)
  subst ec
  subst ea
  generalize hF : Jvm.Free.Multi.fill (T.setVm vm₁) (ca 5) (ca 1) x.toNatClampNeg y.toNatClampNeg (defaultValue .int) x.toNatClampNeg = F at X' step
  have hTh : (T.setVm vm₁).heap = H := hT
  obtain ⟨f1, f2, -, -⟩ := Jvm.Free.Multi.fill_facts (T.setVm vm₁) (ca 5) (ca 1) x.toNatClampNeg y.toNatClampNeg (defaultValue .int) x.toNatClampNeg
  rw [hF, hTh] at f1 f2
  have hold : ∀ q : Nat, q < H.size → F.heap[q]? = H[q]? := fun q hq => by
    have := Jvm.Free.Multi.fill_old (T.setVm vm₁) (ca 5) (ca 1) x.toNatClampNeg y.toNatClampNeg (defaultValue .int) (a := q) (by rw [hTh]; exact hq) x.toNatClampNeg
    rw [hF, hTh] at this
    exact this
  have hrow : ∀ j : Nat, j < x.toNatClampNeg → F.heap[H.size + 1 + j]? = some (vp_cell (ca 1) (y.toNatClampNeg, .inl (fun _ => 0))) := fun j hj => by
    have := Jvm.Free.Multi.fill_inner (T.setVm vm₁) (ca 5) (ca 1) x.toNatClampNeg y.toNatClampNeg (defaultValue .int) x.toNatClampNeg j hj
    rw [hF, hTh] at this
    rw [this, vp_cell_i, ← arrV_new]
    rfl
  rw [vr_outer] at f2
  have hsz0 : F.heap.size = h0 + (n + 1 + x.toNatClampNeg) := by rw [f1]; omega
  have hnew : ∀ k, n ≤ k → k < n + 1 + x.toNatClampNeg → va_at D classes (ad k, sE lay ad ca (zM S n x.toNatClampNeg) k) F.heap := by
    intro k h1 h2
    by_cases hk : k = n
    · subst hk
      rw [sE_rs hl]
      show F.heap[ad k]? = some (vp_cell _ _)
      rw [had k h2, ← hH, f2, vp_cell_q]
      congr 2
      funext j
      unfold zM
      by_cases hj : j < x.toNatClampNeg
      · simp only [hj, if_true, Option.map_some]
        rw [had _ (by omega), hH, show h0 + k + 1 + j = h0 + (k + 1 + j) by omega]
      · simp only [hj, if_true, if_false, Option.map_none]
    · obtain ⟨j, rfl⟩ : ∃ j, k = n + 1 + j := ⟨k - (n + 1), by omega⟩
      have hj : j < x.toNatClampNeg := by omega
      rw [sE_is (hr j hj)]
      show F.heap[ad (n + 1 + j)]? = some (vp_cell _ _)
      have e0 : (zM S n x.toNatClampNeg).1 (n + 1 + j) = fun _ => 0 := by
        unfold zM
        simp only [show n ≤ n + 1 + j ∧ n + 1 + j ≤ n + x.toNatClampNeg from ⟨by omega, by omega⟩, if_true, and_self]
      rw [e0, had _ h2]
      have e1 : h0 + (n + 1 + j) = H.size + 1 + j := by omega
      rw [e1]
      exact hrow j hj
  rw [Nat.add_assoc cells, Nat.add_assoc slots] at X'
  obtain ⟨t, a1, b1⟩ := kk F.heap (sB_many B had (by omega) hH sE_zM hnew hsz0 hold) F rfl X'
  refine ⟨t, step t ?_, b1⟩
  have e : T.heap.size = ad n := by rw [hT, hH, had n (by omega)]
  rw [e]
  exact a1
theorem r_newR (G : CallFix p m c cc nL s args lw_good own) (B : sB D lay n ad ca S s H locs) (hOv : sOv s) (hH : H.size = ad n) {index N : Nat} {x : Int32} (hl : lay n = (6, N)) (hn : ¬ x < 0) (hN : x.toNatClampNeg = N) (hb : Nat.ble N 1000000 = true) (hcl : Cond.classLink own index "RuleSentences$Clause" ∈ lw_good) (hcells : cells + 1 ≤ R.cells) (hslots : slots + N ≤ R.slots) (hdg : decode cc pc = .ok (.anewarray index, 3))
    (kk : ∀ (H1 : Heap), sB D lay (n + 1) ad ca (zC S n) s H1 locs → W p l e R s m args below meth c H1 locs (cells + 1) (slots + N) Q (F0 m (pc + 3) ls (.ref (ad n) :: rest))) : W p l e R s m args below meth c H locs cells slots Q (F0 m pc ls (.int x :: rest)) := by
  have hb := Nat.le_of_ble_eq_true hb
  subst hN
  refine W.anew G.1 G.2.1 G.2.2.2.1 (G.2.2.2.2 _ hcl) (va_AO.use hOv.1) rfl hdg rfl hn (by omega) hcells hslots fun cA kA comp f1 f2 f3 f4 => ?_
  generalize hH1 : H.push ({ cls := cA, slots := Array.replicate x.toNatClampNeg .null, vm := .none } : Cell) = H1
  have z1 : H1.size = H.size + 1 := by rw [← hH1, Array.size_push]
  have e1 : H1[H.size]? = some (arrV cA x.toNatClampNeg (fun _ => .null)) := by rw [← hH1, Array.getElem?_push_size, ← arrV_new]
  have o1 : ∀ q : Nat, q < H.size → H1[q]? = H[q]? := fun q hq => by rw [← hH1, Array.getElem?_push, if_neg (Nat.ne_of_lt hq)]
  obtain ⟨kA', comp', g1, g2, g3, g4⟩ := (B.1.2 5 _ rfl).2
  have ec : cA = ca 6 := Option.some.inj (f1.symm.trans g4)
  subst ec
  rw [hH] at z1 e1 o1 ⊢
  have eR : (zC S n).2.2 n = fun _ => none := va_up_self _ _ _
  refine kk H1 (sB_new B hH (x := .inl (ca 6, x.toNatClampNeg, .inr (.inr (.inr (.inr (fun _ => none)))))) (by rw [sE_cs hl, eR]; rfl) (fun k hk => sE_zC k (Nat.ne_of_lt hk)) ?_ z1 o1)
  show H1[ad n]? = some (vp_cell _ _)
  rw [vp_cell_q]
  exact e1
/-- a clause is put into an array of clauses -/
theorem r_astR (G : CallFix p m c cc nL s args lw_good own) {nc : Nat} (B : sB D lay nc ad ca S s H locs) {k b N : Nat} {x : Int32} (hl : lay k = (6, N)) (hk : k < nc) (hlb : lay b = (0, 4)) (hkb : b < nc) (hin : vp_in x N) (hdg : decode cc pc = .ok (.aastore, 1))
    (kk : ∀ (H : Heap) (locs : List Loc), sB D lay nc ad ca (uR S k x.toNatClampNeg (some b)) s H locs → W p l e R s m args below meth c H locs cells slots Q (F0 m (pc + 1) ls rest)) : W p l e R s m args below meth c H locs cells slots Q (F0 m pc ls (.ref (ad b) :: .int x :: .ref (ad k) :: rest)) := by
  refine va_astq (D := D) G.1 G.2.1 B.1 B.2.1 B.2.2.1 B.2.2.2.1 k 5 b 4 (n := N) (f := fun i => (S.2.2 k i).map ad) (r := (R_cl, F_cl, 7)) (by rw [sW_at hk, sE_cs hl]) rfl (by rw [sW_at hkb, sE_ob hlb]) rfl hin hdg (fun H1 locs1 hP hD hS => ?_)
  have e := sW_set (lay := lay) (nc := nc) (ad := ad) (ca := ca) (S := S) (S' := uR S k x.toNatClampNeg (some b)) hk (e := .inl (ca 6, N, .inr (.inr (.inr (.inr (va_up (fun i => (S.2.2 k i).map ad) x.toNatClampNeg (some (ad b)))))))) (by
    rw [sE_cs hl]
    have e0 : (uR S k x.toNatClampNeg (some b)).2.2 k = va_up (S.2.2 k) x.toNatClampNeg (some b) := va_up_self _ _ _
    rw [e0]
    congr 7
    funext i
    unfold va_up
    by_cases hi : i = x.toNatClampNeg
    · simp [hi]
    · simp [hi]) sE_uR
  rw [e] at hP hD
  exact kk H1 locs1 ⟨B.1, hP, hD, hS, B.2.2.2.2⟩
/-- a reference is put into a final field, by its class's constructor -/
theorem r_putF (G : CallFix p m c cc nL s args lw_good own) {nc : Nat} (B : sB D lay nc ad ca S s H locs) {index k ci j N : Nat} {C : String} {T : u_T} {ty0 : Nat → FieldType} (hty : ∀ k, k < N → parseFieldDescriptor (T k).2.2.1 = some (ty0 k)) (hnm : ∀ a, a < N → ∀ b, b < N → a ≠ b → (T a).2.1 ≠ (T b).2.1) (hc : classes[ci]? = some (C, T, N)) (hi : ∀ w ∈ u_ws C T N, w ∈ lw_good) (hN : nT ci = N) (hl : lay k = (0, ci)) (hk : k < nc) (hj : j < N) (hf : Cond.fieldLink own index (T j).1 (T j).2.1 (T j).2.2.1 ∈ lw_good) (hfin : (T j).2.2.2 = true) (hin2 : meth.name = "<init>") (hdecl : (T j).1 = own) {v : Option Nat} (hv : sV ad (fT ci j) (S.1 k j) (S.2.1 k j) v = va_rf (v.map ad)) (hn : narrow (ty0 j) (va_rf (v.map ad)) = va_rf (v.map ad)) (hfit : fits (ty0 j) (va_rf (v.map ad)) = true) (hdg : decode cc pc = .ok (.putfield index, 3))
    (kk : ∀ (H : Heap) (locs : List Loc), sB D lay nc ad ca (uR S k j v) s H locs → W p l e R s m args below meth c H locs cells slots Q (F0 m (pc + 3) ls rest)) : W p l e R s m args below meth c H locs cells slots Q (F0 m pc ls (va_rf (v.map ad) :: .ref (ad k) :: rest)) := by
  have he : (sW lay nc ad ca S)[k]? = some (ad k, .inr (ci, sO ad S ci k)) := by rw [sW_at hk, sE_ob hl]
  refine va_putF (D := D) (ty := ty0 j) G.1 G.2.1 G.2.2.2.2 hi ty0 hty hnm G.2.2.2.1 B.1 B.2.1 B.2.2.1 B.2.2.2.1 k he hc j hj (G.2.2.2.2 _ hf) (fun _ h9 => h9) hfin hin2 hdecl (hty j hj) hn hfit (by unfold sO; simpa [hN] using hj) hdg (fun H1 locs1 hP hD hS => ?_)
  have e := sW_set (lay := lay) (nc := nc) (ad := ad) (ca := ca) (S := S) (S' := uR S k j v) hk (e := .inr (ci, (sO ad S ci k).set j (va_rf (v.map ad)))) (by rw [sE_ob hl, sO_uR hv]) sE_uR
  rw [e] at hP hD
  exact kk H1 locs1 ⟨B.1, hP, hD, hS, B.2.2.2.2⟩
end AM


