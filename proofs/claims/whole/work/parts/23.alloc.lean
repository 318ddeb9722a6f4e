/-! MAKING CELLS: addresses in a row from h0 on -/
def zC (S : sS) (n : Nat) : sS := (va_up S.1 n (fun _ => 0), va_up S.2.1 n (fun _ => 0), va_up S.2.2 n (fun _ => none))
def layN (lay : Nat → Nat × Nat) (n k : Nat) : Nat × Nat := bif Nat.blt k n then lay k else (9, 0)
theorem layN_lt {lay : Nat → Nat × Nat} {n k : Nat} (h : k < n) : layN lay n k = lay k := by
  unfold layN
  rw [show Nat.blt k n = true from Nat.ble_eq_true_of_le h]
  rfl
theorem layN_in {lay : Nat → Nat × Nat} {n : Nat} : ∀ k, (layN lay n k).1 < 7 → k < n := by
  intro k h
  unfold layN at h
  cases hb : Nat.blt k n with
  | true => exact Nat.le_of_ble_eq_true hb
  | false => rw [hb] at h; exact absurd h (by simp)
theorem sW_layN {lay : Nat → Nat × Nat} {n : Nat} {ad ca : Nat → Nat} {S : sS} : sW (layN lay n) n ad ca S = sW lay n ad ca S := by
  unfold sW
  apply List.map_congr_left
  intro k hk
  unfold sE
  rw [layN_lt (List.mem_range.mp hk)]
theorem sE_zC {lay : Nat → Nat × Nat} {ad ca : Nat → Nat} {S : sS} {n : Nat} : ∀ i, i ≠ n → sE lay ad ca (zC S n) i = sE lay ad ca S i := by
  intro i hi
  have e1 : va_up S.1 n (fun _ => (0 : Int32)) i = S.1 i := va_up_ne _ _ hi
  have e2 : va_up S.2.1 n (fun _ => (0 : Int64)) i = S.2.1 i := va_up_ne _ _ hi
  have e3 : va_up S.2.2 n (fun _ => (none : Option Nat)) i = S.2.2 i := va_up_ne _ _ hi
  unfold sE sO zC
  simp only [e1, e2, e3]
theorem sW_push {lay : Nat → Nat × Nat} {ad ca : Nat → Nat} {S S1 : sS} {n : Nat} (h : ∀ k, k < n → sE lay ad ca S1 k = sE lay ad ca S k) : sW lay (n + 1) ad ca S1 = sW lay n ad ca S ++ [(ad n, sE lay ad ca S1 n)] := by
  unfold sW
  rw [List.range_succ, List.map_append]
  congr 1
  apply List.map_congr_left
  intro k hk
  rw [h k (List.mem_range.mp hk)]
theorem sA_up {ad : Nat → Nat} {n0 n sz : Nat} (hn : n0 ≤ n) (h : ∀ k, n0 ≤ k → k < n → sz ≤ ad k) : sA n ad sz = sA n0 ad sz := by
  funext q
  apply propext
  constructor
  · rintro (⟨k, hk, rfl⟩ | h1)
    · by_cases hk0 : k < n0
      · exact Or.inl ⟨k, hk0, rfl⟩
      · exact Or.inr (h k (by omega) hk)
    · exact Or.inr h1
  · rintro (⟨k, hk, rfl⟩ | h1)
    · exact Or.inl ⟨k, by omega, rfl⟩
    · exact Or.inr h1
def tyZ (ty : FieldType) : Bool := match ty with
  | .float => false
  | .double => false
  | _ => true
theorem tyZ_ok {ad : Nat → Nat} {ty : FieldType} (h : tyZ ty = true) : defaultValue ty = sV ad ty 0 0 none := by
  cases ty <;> first | rfl | (cases h)
section AL
variable {p : Program} {l : Launch} {e : Env} {R : Room} {s : State} {m : MethodId} {args : Array Value} {below : List Frame} {meth : Method} {c : Code} {H : Heap} {locs : List Loc} {cells slots : Nat} {Q : State → Prop}
variable {cc : ByteArray} {pc nL n : Nat} {ls : Array Slot} {rest : List Value} {D : va_G} {lay : Nat → Nat × Nat} {ad ca : Nat → Nat} {S : sS} {own : String}
theorem w_size {g : JFrame} (h : H.size ≤ s.heap.size + cells → W p l e R s m args below meth c H locs cells slots Q g) : W p l e R s m args below meth c H locs cells slots Q g :=
  fun T hT X => h (by rw [← hT]; exact X.heapSize) T hT X
theorem sB_size {h0 n0 : Nat} (B : sB D lay n ad ca S s H locs) (had : ∀ k, k < n → ad k = h0 + k) (hs : s.heap.size = h0 + n0) (hn : n = n0 + cells) (hH : H.size ≤ s.heap.size + cells) : H.size = h0 + n := by
  have h1 := B.2.2.2.1.1
  by_cases hc : cells = 0
  · omega
  · have h2 : n - 1 < n := by omega
    have h3 := (B.2.1 (n - 1) _ (sW_at h2)).lt
    have h4 := had (n - 1) h2
    have h5 : ad (n - 1) < H.size := h3
    omega
/-- a new cell's world -/
theorem sB_new {H1 : Heap} {S1 : sS} {x : va_E} (B : sB D lay n ad ca S s H locs) (hH : H.size = ad n) (hE : sE lay ad ca S1 n = x) (hO : ∀ k, k < n → sE lay ad ca S1 k = sE lay ad ca S k) (hx : va_at D classes (ad n, x) H1) (z1 : H1.size = ad n + 1) (o1 : ∀ q, q < ad n → H1[q]? = H[q]?) : sB D lay (n + 1) ad ca S1 s H1 locs := by
  have hsz : s.heap.size ≤ ad n := by rw [← hH]; exact B.2.2.2.1.1
  have eA : sA (n + 1) ad s.heap.size = sA n ad s.heap.size := sA_up (Nat.le_succ n) (fun k h1 h2 => by
    have : k = n := by omega
    rw [this]; exact hsz)
  have eW : sW lay (n + 1) ad ca S1 = sW lay n ad ca S ++ [(ad n, x)] := by rw [sW_push hO, hE]
  have hk : ∀ (k : Nat) (y : Nat × va_E), (sW lay n ad ca S)[k]? = some y → H1[y.1]? = H[y.1]? := fun k y hy => o1 y.1 (by rw [← hH]; exact (B.2.1 k y hy).lt)
  refine ⟨B.1, ?_, ?_, ?_, ?_⟩
  · rw [eW]
    refine (B.2.1.kept hk).app (fun k y hy => ?_)
    have hz : k < 1 := (List.getElem?_eq_some_iff.mp hy).1
    rw [show k = 0 by omega] at hy
    cases hy
    exact hx
  · rw [eW, eA]
    exact B.2.2.1.push B.2.1 hH.symm (Or.inr hsz)
  · rw [eA]
    exact ⟨Nat.le_trans hsz (by omega), fun y h1 h2 => (o1 y (Nat.lt_of_lt_of_le h1 hsz)).trans (B.2.2.2.1.2.1 y h1 h2), B.2.2.2.1.2.2⟩
  · unfold sX
    rw [eA]
    exact B.2.2.2.2
theorem r_newO (G : CallFix p m c cc nL s args lw_good own) (B : sB D lay n ad ca S s H locs) (hH : H.size = ad n) {index ci N : Nat} {C : String} {T : u_T} (hc : classes[ci]? = some (C, T, N)) (hi : ∀ w ∈ u_ws C T N, w ∈ lw_good) (hN : nT ci = N) (hty : ∀ k, k < N → parseFieldDescriptor (T k).2.2.1 = some (fT ci k)) (hz : ∀ k, k < N → tyZ (fT ci k) = true) (hl : lay n = (0, ci)) (hcl : Cond.classLink own index C ∈ lw_good) (hinst : Cond.instantiable C N ∈ lw_good) (hini : Cond.initialized C ∈ lw_good) (hcells : cells + 1 ≤ R.cells) (hslots : slots + N ≤ R.slots) (hdg : decode cc pc = .ok (.new index, 3))
    (kk : ∀ (H1 : Heap), sB D lay (n + 1) ad ca (zC S n) s H1 locs → W p l e R s m args below meth c H1 locs (cells + 1) (slots + N) Q (F0 m (pc + 3) ls (.ref (ad n) :: rest))) : W p l e R s m args below meth c H locs cells slots Q (F0 m pc ls rest) := by
  have hKn := B.1.1 ci _ hc
  refine W.newcK G.1 G.2.1 G.2.2.2.1 (G.2.2.2.2 _ hcl) (G.2.2.2.2 _ hinst) (G.2.2.2.2 _ hini) rfl hdg hcells hslots hKn.2.1 hH fun H1 kC hkC e1 z1 o1 => ?_
  refine kk H1 (sB_new B hH (x := .inr (ci, sO ad (zC S n) ci n)) (sE_ob hl) (fun k hk => sE_zC k (Nat.ne_of_lt hk)) ?_ z1 o1)
  refine ⟨_, hc, (u_born (fT ci) G.2.2.2.2 hi hKn hkC e1 hty).to (fun j hj => ?_)⟩
  show defaultValue (fT ci j) = vp_V (sO ad (zC S n) ci n) j
  unfold vp_V
  rw [List.getD_eq_getElem?_getD, sO_at (by rw [hN]; exact hj)]
  show _ = sV ad (fT ci j) ((zC S n).1 n j) ((zC S n).2.1 n j) ((zC S n).2.2 n j)
  rw [tyZ_ok (ad := ad) (hz j hj)]
  unfold zC
  simp only [va_up_self]
/-- a new array of whole numbers -/
theorem r_newA (G : CallFix p m c cc nL s args lw_good own) (B : sB D lay n ad ca S s H locs) (hH : H.size = ad n) {atype : ArrayType} {t N : Nat} {x : Int32} (ht : (t = 1 ∧ atype = .int) ∨ (t = 2 ∧ atype = .long) ∨ (t = 3 ∧ atype = .byte) ∨ (t = 4 ∧ atype = .boolean)) (hl : lay n = (t, N)) (hn : ¬ x < 0) (hN : x.toNatClampNeg = N) (hb : Nat.ble N 60000000 = true) (harr : Cond.arrayClass (newarray.typeOf atype) ∈ lw_good) (hcells : cells + 1 ≤ R.cells) (hslots : slots + N ≤ R.slots) (hdg : decode cc pc = .ok (.newarray atype, 2))
    (kk : ∀ (H1 : Heap), sB D lay (n + 1) ad ca (zC S n) s H1 locs → W p l e R s m args below meth c H1 locs (cells + 1) (slots + N) Q (F0 m (pc + 2) ls (.ref (ad n) :: rest))) : W p l e R s m args below meth c H locs cells slots Q (F0 m pc ls (.int x :: rest)) := by
  have hb := Nat.le_of_ble_eq_true hb
  have e1 : (zC S n).1 n = fun _ => 0 := va_up_self _ _ _
  have e2 : (zC S n).2.1 n = fun _ => 0 := va_up_self _ _ _
  rcases ht with ⟨rfl, rfl⟩ | ⟨rfl, rfl⟩ | ⟨rfl, rfl⟩ | ⟨rfl, rfl⟩
  · refine va_newaK G.1 G.2.1 (G.2.2.2.2 _ harr) rfl hdg rfl hn hN (by show N * 4 ≤ _; omega) hcells hslots hH (fun H1 cA g1 z1 o1 hA hF => kk H1 (sB_new B hH (x := .inl (ca 1, N, .inl (fun _ => 0))) (by rw [sE_is hl, e1]) (fun k hk => sE_zC k (Nat.ne_of_lt hk)) ?_ z1 o1))
    have ec : cA = ca 1 := Option.some.inj (hF.symm.trans (B.1.2 0 _ rfl).2)
    subst ec
    exact g1
  · refine va_newaK G.1 G.2.1 (G.2.2.2.2 _ harr) rfl hdg rfl hn hN (by show N * 8 ≤ _; omega) hcells hslots hH (fun H1 cA g1 z1 o1 hA hF => kk H1 (sB_new B hH (x := .inl (ca 2, N, .inr (.inl (fun _ => 0)))) (by rw [sE_ls hl, e2]) (fun k hk => sE_zC k (Nat.ne_of_lt hk)) ?_ z1 o1))
    have ec : cA = ca 2 := Option.some.inj (hF.symm.trans (B.1.2 1 _ rfl).2)
    subst ec
    exact g1
  · refine va_newaK G.1 G.2.1 (G.2.2.2.2 _ harr) rfl hdg rfl hn hN (by show N * 1 ≤ _; omega) hcells hslots hH (fun H1 cA g1 z1 o1 hA hF => kk H1 (sB_new B hH (x := .inl (ca 3, N, .inl (fun _ => 0))) (by rw [sE_bs hl, e1]) (fun k hk => sE_zC k (Nat.ne_of_lt hk)) ?_ z1 o1))
    have ec : cA = ca 3 := Option.some.inj (hF.symm.trans (B.1.2 2 _ rfl).2)
    subst ec
    exact g1
  · refine va_newaK G.1 G.2.1 (G.2.2.2.2 _ harr) rfl hdg rfl hn hN (by show N * 1 ≤ _; omega) hcells hslots hH (fun H1 cA g1 z1 o1 hA hF => kk H1 (sB_new B hH (x := .inl (ca 4, N, .inl (fun _ => 0))) (by rw [sE_zs hl, e1]) (fun k hk => sE_zC k (Nat.ne_of_lt hk)) ?_ z1 o1))
    have ec : cA = ca 4 := Option.some.inj (hF.symm.trans (B.1.2 3 _ rfl).2)
    subst ec
    exact g1
end AL


