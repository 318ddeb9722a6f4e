/-! codes as rows, read byte by byte: a window of three bytes at a time -/
def W3 (a b c : UInt8) : ByteArray := ⟨#[a, b, c]⟩
/-- what one decoder reads in B the other reads d bytes further on in A -/
def RelB {α : Type} (A B : ByteArray) (N d : Nat) (r r' : Decoder α) : Prop := ∀ (p p' : Nat) (v : α), r' B p = .ok (v, p') → p' ≤ N → p ≤ p' ∧ r A (p + d) = .ok (v, p' + d)
theorem rel_pure {α : Type} {A B : ByteArray} {N d : Nat} {v : α} : RelB A B N d (pure v) (pure v) := fun p p' w h _ => by
  have e : (Except.ok (v, p) : Except DecodeError (α × Nat)) = .ok (w, p') := h
  cases e
  exact ⟨Nat.le_refl _, rfl⟩
theorem rel_bind {α β : Type} {A B : ByteArray} {N d : Nat} {r r' : Decoder α} {f f' : α → Decoder β} (h : RelB A B N d r r') (g : ∀ v, RelB A B N d (f v) (f' v)) : RelB A B N d (r >>= f) (r' >>= f') := fun p p' v e le => by
  have e2 : Except.bind (r' B p) (fun q => (f' q.1) B q.2) = .ok (v, p') := e
  cases c : r' B p with
  | error x => rw [c] at e2; exact nomatch e2
  | ok q =>
    rw [c] at e2
    obtain ⟨u, q1⟩ := q
    have e3 : (f' u) B q1 = .ok (v, p') := e2
    obtain ⟨l2, a2⟩ := g u q1 p' v e3 le
    obtain ⟨l1, a1⟩ := h p q1 u c (Nat.le_trans l2 le)
    refine ⟨Nat.le_trans l1 l2, ?_⟩
    show Except.bind (r A (p + d)) (fun q => (f q.1) A q.2) = _
    rw [a1]
    exact a2
theorem rel_map {α β : Type} {A B : ByteArray} {N d : Nat} {r r' : Decoder α} {f : α → β} (h : RelB A B N d r r') : RelB A B N d (f <$> r) (f <$> r') := fun p p' v e le => by
  have e2 : Except.bind (r' B p) (fun q => .ok (f q.1, q.2)) = .ok (v, p') := e
  cases c : r' B p with
  | error x => rw [c] at e2; exact nomatch e2
  | ok q =>
    rw [c] at e2
    obtain ⟨u, q1⟩ := q
    have e3 : (Except.ok (f u, q1) : Except DecodeError (β × Nat)) = .ok (v, p') := e2
    cases e3
    obtain ⟨l1, a1⟩ := h p _ u c le
    refine ⟨l1, ?_⟩
    show Except.bind (r A (p + d)) (fun q => .ok (f q.1, q.2)) = _
    rw [a1]
    rfl
theorem u1_ok {A : ByteArray} {p : Nat} (h : p < A.size) : (Reader.u1 : Decoder Nat) A p = .ok (A[p].toNat, p + 1) := by
  show (if h : p < A.size then (do set (p + 1); pure A[p].toNat : Decoder Nat) else throw (HasTruncated.truncated p)) A p = _
  rw [dif_pos h]
  rfl
theorem u1_no {A : ByteArray} {p : Nat} (h : ¬ p < A.size) : (Reader.u1 : Decoder Nat) A p = .error (HasTruncated.truncated p) := by
  show (if h : p < A.size then (do set (p + 1); pure A[p].toNat : Decoder Nat) else throw (HasTruncated.truncated p)) A p = _
  rw [dif_neg h]
  rfl
section
variable {A B : ByteArray} {N d : Nat}
/-- the bytes agree -/
def AgB (A B : ByteArray) (N d : Nat) : Prop := N ≤ B.size ∧ N + d ≤ A.size ∧ ∀ (i : Nat) (h : i < B.size) (h' : i + d < A.size), i < N → A[i + d] = B[i]
theorem rel_u1 (g : AgB A B N d) : RelB A B N d (Reader.u1 : Decoder Nat) Reader.u1 := fun p p' v e le => by
  obtain ⟨g1, g2, g3⟩ := g
  by_cases h : p < B.size
  · rw [u1_ok h] at e
    have e1 : B[p].toNat = v := congrArg (fun x : Except DecodeError (Nat × Nat) => match x with | .ok q => q.1 | _ => 0) e
    have e2 : p + 1 = p' := congrArg (fun x : Except DecodeError (Nat × Nat) => match x with | .ok q => q.2 | _ => 0) e
    have h' : p + d < A.size := by omega
    refine ⟨by omega, ?_⟩
    rw [u1_ok h', g3 p h h' (by omega), e1, show p + d + 1 = p' + d by omega]
  · rw [u1_no h] at e; exact nomatch e
theorem rel_u2 (g : AgB A B N d) : RelB A B N d (Reader.u2 : Decoder Nat) Reader.u2 := rel_bind (rel_u1 g) (fun _ => rel_bind (rel_u1 g) (fun _ => rel_pure))
theorem rel_s1 (g : AgB A B N d) : RelB A B N d (Reader.s1 : Decoder Int) Reader.s1 := rel_map (rel_u1 g)
theorem rel_s2 (g : AgB A B N d) : RelB A B N d (Reader.s2 : Decoder Int) Reader.s2 := rel_map (rel_u2 g)
end
def okO (n : Nat) : Bool := (bif Nat.ble n 101 then (bif Nat.ble n 66 then (bif Nat.ble n 33 then (bif Nat.ble n 10 then (Nat.ble 2 n && Nat.ble n 10) else (bif Nat.ble n 22 then (Nat.ble 16 n && Nat.ble n 22) else (Nat.ble 25 n && Nat.ble n 33))) else (bif Nat.ble n 51 then (bif Nat.ble n 47 then (Nat.ble 42 n && Nat.ble n 47) else (Nat.ble 50 n && Nat.ble n 51)) else (bif Nat.ble n 55 then (Nat.ble 54 n && Nat.ble n 55) else (Nat.ble 58 n && Nat.ble n 66)))) else (bif Nat.ble n 87 then (bif Nat.ble n 80 then (Nat.ble 75 n && Nat.ble n 80) else (bif Nat.ble n 84 then Nat.beq n 84 else Nat.beq n 87)) else (bif Nat.ble n 92 then (bif Nat.ble n 89 then Nat.beq n 89 else Nat.beq n 92) else (bif Nat.ble n 97 then (Nat.ble 96 n && Nat.ble n 97) else (Nat.ble 100 n && Nat.ble n 101))))) else (bif Nat.ble n 146 then (bif Nat.ble n 113 then (bif Nat.ble n 105 then (Nat.ble 104 n && Nat.ble n 105) else (bif Nat.ble n 109 then (Nat.ble 108 n && Nat.ble n 109) else (Nat.ble 112 n && Nat.ble n 113))) else (bif Nat.ble n 133 then (bif Nat.ble n 116 then Nat.beq n 116 else (Nat.ble 120 n && Nat.ble n 133)) else (bif Nat.ble n 136 then Nat.beq n 136 else (Nat.ble 145 n && Nat.ble n 146)))) else (bif Nat.ble n 167 then (bif Nat.ble n 148 then Nat.beq n 148 else (bif Nat.ble n 164 then (Nat.ble 153 n && Nat.ble n 164) else Nat.beq n 167)) else (bif Nat.ble n 178 then (bif Nat.ble n 173 then (Nat.ble 172 n && Nat.ble n 173) else (Nat.ble 176 n && Nat.ble n 178)) else (bif Nat.ble n 184 then (Nat.ble 180 n && Nat.ble n 184) else Nat.beq n 190)))))
def opsL : List Nat := [2, 3, 4, 5, 6, 7, 8, 9, 10, 16, 17, 18, 19, 20, 21, 22, 25, 26, 27, 28, 29, 30, 31, 32, 33, 42, 43, 44, 45, 46, 47, 50, 51, 54, 55, 58, 59, 60, 61, 62, 63, 64, 65, 66, 75, 76, 77, 78, 79, 80, 84, 87, 89, 92, 96, 97, 100, 101, 104, 105, 108, 109, 112, 113, 116, 120, 121, 122, 123, 124, 125, 126, 127, 128, 129, 130, 131, 132, 133, 136, 145, 146, 148, 153, 154, 155, 156, 157, 158, 159, 160, 161, 162, 163, 164, 167, 172, 173, 176, 177, 178, 180, 181, 182, 183, 184, 190]
theorem ops_f : ∀ v : Fin 191, okO v.val = true → v.val ∈ opsL := by decide +kernel
theorem ops_m {v : Nat} (h : okO v = true) : v ∈ opsL := by
  by_cases q : v < 191
  · exact ops_f ⟨v, q⟩ h
  · exfalso
    unfold okO at h
    simp only [show ∀ k : Nat, k < 191 → Nat.ble v k = false from fun k hk => by rw [Bool.eq_false_iff]; intro w; have := Nat.le_of_ble_eq_true w; omega, Nat.reduceLT, cond_false, Bool.and_false] at h
    have := Nat.eq_of_beq_eq_true h
    omega
theorem bind_u1 {β : Type} {A : ByteArray} {p : Nat} (h : p < A.size) (f : Nat → Decoder β) : ((Reader.u1 : Decoder Nat) >>= f) A p = f A[p].toNat A (p + 1) := by
  show Except.bind ((Reader.u1 : Decoder Nat) A p) (fun q => (f q.1) A q.2) = _
  rw [u1_ok h]
  rfl
set_option maxRecDepth 100000 in
set_option maxHeartbeats 4000000 in
theorem dec_rel {A B : ByteArray} {N d : Nat} (g : AgB A B N d) (hN : 0 < N) (hB : 0 < B.size) (ho : okO B[0].toNat = true) {i : Instr} {n : Nat} (e : (Decoder.instr 0) B 0 = .ok (i, n)) (le : n ≤ N) : (Decoder.instr d) A d = .ok (i, n + d) := by
  have hA : d < A.size := by have := g.2.1; omega
  have ag : A[d] = B[0] := by
    have u := g.2.2 0 hB (by omega) hN
    simpa only [Nat.zero_add] using u
  unfold Decoder.instr at e ⊢
  rw [bind_u1 hB] at e
  rw [bind_u1 hA, ag]
  have fin : ∀ {r r' : Decoder Instr}, RelB A B N d r r' → r' B (0 + 1) = .ok (i, n) → r A (d + 1) = .ok (i, n + d) := fun h w => by
    have u := (h _ _ _ w le).2
    rw [show 0 + 1 + d = d + 1 by omega] at u
    exact u
  have m := ops_m ho
  generalize B[0].toNat = v at e m ⊢
  simp only [opsL, List.mem_cons, List.not_mem_nil, or_false] at m
  rcases m with rfl | rfl | rfl | rfl | rfl | rfl | rfl | rfl | rfl | rfl | rfl | rfl | rfl | rfl | rfl | rfl | rfl | rfl | rfl | rfl | rfl | rfl | rfl | rfl | rfl | rfl | rfl | rfl | rfl | rfl | rfl | rfl | rfl | rfl | rfl | rfl | rfl | rfl | rfl | rfl | rfl | rfl | rfl | rfl | rfl | rfl | rfl | rfl | rfl | rfl | rfl | rfl | rfl | rfl | rfl | rfl | rfl | rfl | rfl | rfl | rfl | rfl | rfl | rfl | rfl | rfl | rfl | rfl | rfl | rfl | rfl | rfl | rfl | rfl | rfl | rfl | rfl | rfl | rfl | rfl | rfl | rfl | rfl | rfl | rfl | rfl | rfl | rfl | rfl | rfl | rfl | rfl | rfl | rfl | rfl | rfl | rfl | rfl | rfl | rfl | rfl | rfl | rfl | rfl | rfl | rfl | rfl
  · exact fin (rel_pure) e
  · exact fin (rel_pure) e
  · exact fin (rel_pure) e
  · exact fin (rel_pure) e
  · exact fin (rel_pure) e
  · exact fin (rel_pure) e
  · exact fin (rel_pure) e
  · exact fin (rel_pure) e
  · exact fin (rel_pure) e
  · exact fin (rel_bind (rel_s1 g) (fun _ => rel_pure)) e
  · exact fin (rel_bind (rel_s2 g) (fun _ => rel_pure)) e
  · exact fin (rel_bind (rel_u1 g) (fun _ => rel_pure)) e
  · exact fin (rel_bind (rel_u2 g) (fun _ => rel_pure)) e
  · exact fin (rel_bind (rel_u2 g) (fun _ => rel_pure)) e
  · exact fin (rel_bind (rel_u1 g) (fun _ => rel_pure)) e
  · exact fin (rel_bind (rel_u1 g) (fun _ => rel_pure)) e
  · exact fin (rel_bind (rel_u1 g) (fun _ => rel_pure)) e
  · exact fin (rel_pure) e
  · exact fin (rel_pure) e
  · exact fin (rel_pure) e
  · exact fin (rel_pure) e
  · exact fin (rel_pure) e
  · exact fin (rel_pure) e
  · exact fin (rel_pure) e
  · exact fin (rel_pure) e
  · exact fin (rel_pure) e
  · exact fin (rel_pure) e
  · exact fin (rel_pure) e
  · exact fin (rel_pure) e
  · exact fin (rel_pure) e
  · exact fin (rel_pure) e
  · exact fin (rel_pure) e
  · exact fin (rel_pure) e
  · exact fin (rel_bind (rel_u1 g) (fun _ => rel_pure)) e
  · exact fin (rel_bind (rel_u1 g) (fun _ => rel_pure)) e
  · exact fin (rel_bind (rel_u1 g) (fun _ => rel_pure)) e
  · exact fin (rel_pure) e
  · exact fin (rel_pure) e
  · exact fin (rel_pure) e
  · exact fin (rel_pure) e
  · exact fin (rel_pure) e
  · exact fin (rel_pure) e
  · exact fin (rel_pure) e
  · exact fin (rel_pure) e
  · exact fin (rel_pure) e
  · exact fin (rel_pure) e
  · exact fin (rel_pure) e
  · exact fin (rel_pure) e
  · exact fin (rel_pure) e
  · exact fin (rel_pure) e
  · exact fin (rel_pure) e
  · exact fin (rel_pure) e
  · exact fin (rel_pure) e
  · exact fin (rel_pure) e
  · exact fin (rel_pure) e
  · exact fin (rel_pure) e
  · exact fin (rel_pure) e
  · exact fin (rel_pure) e
  · exact fin (rel_pure) e
  · exact fin (rel_pure) e
  · exact fin (rel_pure) e
  · exact fin (rel_pure) e
  · exact fin (rel_pure) e
  · exact fin (rel_pure) e
  · exact fin (rel_pure) e
  · exact fin (rel_pure) e
  · exact fin (rel_pure) e
  · exact fin (rel_pure) e
  · exact fin (rel_pure) e
  · exact fin (rel_pure) e
  · exact fin (rel_pure) e
  · exact fin (rel_pure) e
  · exact fin (rel_pure) e
  · exact fin (rel_pure) e
  · exact fin (rel_pure) e
  · exact fin (rel_pure) e
  · exact fin (rel_pure) e
  · exact fin (rel_bind (rel_u1 g) (fun _ => rel_bind (rel_s1 g) (fun _ => rel_pure))) e
  · exact fin (rel_pure) e
  · exact fin (rel_pure) e
  · exact fin (rel_pure) e
  · exact fin (rel_pure) e
  · exact fin (rel_pure) e
  · exact fin (rel_bind (rel_s2 g) (fun _ => rel_pure)) e
  · exact fin (rel_bind (rel_s2 g) (fun _ => rel_pure)) e
  · exact fin (rel_bind (rel_s2 g) (fun _ => rel_pure)) e
  · exact fin (rel_bind (rel_s2 g) (fun _ => rel_pure)) e
  · exact fin (rel_bind (rel_s2 g) (fun _ => rel_pure)) e
  · exact fin (rel_bind (rel_s2 g) (fun _ => rel_pure)) e
  · exact fin (rel_bind (rel_s2 g) (fun _ => rel_pure)) e
  · exact fin (rel_bind (rel_s2 g) (fun _ => rel_pure)) e
  · exact fin (rel_bind (rel_s2 g) (fun _ => rel_pure)) e
  · exact fin (rel_bind (rel_s2 g) (fun _ => rel_pure)) e
  · exact fin (rel_bind (rel_s2 g) (fun _ => rel_pure)) e
  · exact fin (rel_bind (rel_s2 g) (fun _ => rel_pure)) e
  · exact fin (rel_bind (rel_s2 g) (fun _ => rel_pure)) e
  · exact fin (rel_pure) e
  · exact fin (rel_pure) e
  · exact fin (rel_pure) e
  · exact fin (rel_pure) e
  · exact fin (rel_bind (rel_u2 g) (fun _ => rel_pure)) e
  · exact fin (rel_bind (rel_u2 g) (fun _ => rel_pure)) e
  · exact fin (rel_bind (rel_u2 g) (fun _ => rel_pure)) e
  · exact fin (rel_bind (rel_u2 g) (fun _ => rel_pure)) e
  · exact fin (rel_bind (rel_u2 g) (fun _ => rel_pure)) e
  · exact fin (rel_bind (rel_u2 g) (fun _ => rel_pure)) e
  · exact fin (rel_pure) e
theorem dec_win {l : List UInt8} {pc : Nat} {a : UInt8} {r : List UInt8} (h : l.drop pc = a :: r) (ho : okO a.toNat = true) {j : Instr} {n : Nat} (e : decode (W3 a (r.headD 0) (r.tail.headD 0)) 0 = .ok (j, n)) (h3 : n ≤ 3) (hn : n ≤ r.length + 1) : decode ⟨⟨l⟩⟩ pc = .ok (j, n) := by
  have hl : (l.drop pc).length = r.length + 1 := by rw [h]; rfl
  rw [List.length_drop] at hl
  have e2 : Except.bind ((Decoder.instr 0) (W3 a (r.headD 0) (r.tail.headD 0)) 0) (fun q => .ok (q.1, q.2 - 0)) = .ok (j, n) := e
  cases c : (Decoder.instr 0) (W3 a (r.headD 0) (r.tail.headD 0)) 0 with
  | error x => rw [c] at e2; exact nomatch e2
  | ok q =>
    rw [c] at e2
    obtain ⟨u, m⟩ := q
    have e3 : (Except.ok (u, m - 0) : Except DecodeError (Instr × Nat)) = .ok (j, n) := e2
    cases e3
    have g : AgB ⟨⟨l⟩⟩ (W3 a (r.headD 0) (r.tail.headD 0)) (min 3 (r.length + 1)) pc := by
      refine ⟨Nat.min_le_left _ _, ?_, fun i h1 h2 hi => ?_⟩
      · show min 3 (r.length + 1) + pc ≤ l.length
        omega
      · have x : l[i + pc]? = (a :: r)[i]? := by rw [← h, List.getElem?_drop, Nat.add_comm]
        have y : (W3 a (r.headD 0) (r.tail.headD 0))[i] = (a :: r)[i]'(by simp; omega) := by
          match i, r, hi with
          | 0, _, _ => rfl
          | 1, _ :: _, _ => rfl
          | 1, [], hi => exact absurd hi (by simp)
          | 2, _ :: _ :: _, _ => rfl
          | 2, [_], hi => exact absurd hi (by simp)
          | 2, [], hi => exact absurd hi (by simp)
          | i + 3, _, hi => exact absurd hi (by omega)
        rw [y]
        show l[i + pc] = _
        have z1 : l[i + pc]? = some l[i + pc] := List.getElem?_eq_getElem _
        rw [z1] at x
        have z2 : (a :: r)[i]? = some ((a :: r)[i]'(by simp; omega)) := List.getElem?_eq_getElem _
        rw [z2] at x
        exact Option.some.inj x
    have u2 := dec_rel g (by omega) (show 0 < 3 by decide) ho c (by omega)
    show Except.bind ((Decoder.instr pc) ⟨⟨l⟩⟩ pc) (fun q => .ok (q.1, q.2 - pc)) = _
    rw [u2]
    show (Except.ok (_, m + pc - pc) : Except DecodeError (Instr × Nat)) = _
    rw [Nat.add_sub_cancel, Nat.sub_zero]
def hasN : Nat → List UInt8 → Bool
  | 0, _ => true
  | _ + 1, [] => false
  | n + 1, _ :: r => hasN n r
theorem hasN_l : ∀ (n : Nat) (r : List UInt8), hasN n r = true → n ≤ r.length
  | 0, _, _ => Nat.zero_le _
  | _ + 1, [], h => nomatch h
  | n + 1, _ :: r, h => Nat.succ_le_succ (hasN_l n r h)
/-- rows against bytes: one window a row; switches are read in the whole -/
def ckW (l : List UInt8) : List (Nat × Instr) → List UInt8 → Nat → Bool
  | [], _, _ => true
  | (k, i) :: rs, s, pc => Nat.beq k pc && (match s with
    | [] => false
    | a :: r => bif okO a.toNat then (match decode (W3 a (r.headD 0) (r.tail.headD 0)) 0 with
        | .ok (j, n + 1) => decide (j = i) && ((Nat.beq (ilen i) 0 || Nat.beq (n + 1) (ilen i)) && (Nat.ble n 2 && (hasN n r && ckW l rs (r.drop n) (k + (n + 1)))))
        | _ => false)
      else (match decode ⟨⟨l⟩⟩ k with
        | .ok (j, n + 1) => decide (j = i) && ((Nat.beq (ilen i) 0 || Nat.beq (n + 1) (ilen i)) && ckW l rs (r.drop n) (k + (n + 1)))
        | _ => false))
theorem drop_s {l : List UInt8} {pc n : Nat} {a : UInt8} {r : List UInt8} (h : l.drop pc = a :: r) : l.drop (pc + (n + 1)) = r.drop n := by
  rw [← List.drop_drop, h]
  rfl
theorem ckW_ok {l : List UInt8} : ∀ (c : List (Nat × Instr)) (s : List UInt8) (pc : Nat), l.drop pc = s → ckW l c s pc = true → ∀ x ∈ c, (match decode ⟨⟨l⟩⟩ x.1 with
  | .ok (i, n) => decide (i = x.2) && (Nat.beq (ilen i) 0 || Nat.beq n (ilen i))
  | _ => false) = true
  | [], _, _, _, _ => fun x hx => absurd hx List.not_mem_nil
  | (k, i) :: rs, s, pc, hs, h => by
    unfold ckW at h
    rw [Bool.and_eq_true] at h
    obtain ⟨hk, h⟩ := h
    have hk : k = pc := Nat.eq_of_beq_eq_true hk
    subst hk
    cases s with
    | nil => exact nomatch h
    | cons a r =>
      dsimp only at h
      cases ho : okO a.toNat with
      | true =>
        rw [ho, cond_true] at h
        cases hd : decode (W3 a (r.headD 0) (r.tail.headD 0)) 0 with
        | error x => rw [hd] at h; exact nomatch h
        | ok q =>
          obtain ⟨j, m⟩ := q
          rw [hd] at h
          cases m with
          | zero => exact nomatch h
          | succ n =>
            simp only [Bool.and_eq_true, decide_eq_true_eq] at h
            obtain ⟨rfl, h2, h3, h4, h5⟩ := h
            have d := dec_win hs ho hd (by have := Nat.le_of_ble_eq_true h3; omega) (by have := hasN_l _ _ h4; omega)
            have ih := ckW_ok rs (r.drop n) (k + (n + 1)) (drop_s hs) h5
            intro x hx
            rcases List.mem_cons.mp hx with e | e
            · subst e
              dsimp only
              rw [d]
              simp only [decide_true, Bool.true_and]
              exact h2
            · exact ih x e
      | false =>
        rw [ho, cond_false] at h
        cases hd : decode ⟨⟨l⟩⟩ k with
        | error x => rw [hd] at h; exact nomatch h
        | ok q =>
          obtain ⟨j, m⟩ := q
          rw [hd] at h
          cases m with
          | zero => exact nomatch h
          | succ n =>
            simp only [Bool.and_eq_true, decide_eq_true_eq] at h
            obtain ⟨rfl, h2, h5⟩ := h
            have ih := ckW_ok rs (r.drop n) (k + (n + 1)) (drop_s hs) h5
            intro x hx
            rcases List.mem_cons.mp hx with e | e
            · subst e
              dsimp only
              rw [hd]
              simp only [decide_true, Bool.true_and]
              exact h2
            · exact ih x e
theorem dOk_w {b : ByteArray} {c : List (Nat × Instr)} (h : ckW b.data.toList c b.data.toList 0 = true) : dOk b c = true := by
  unfold dOk
  rw [List.all_eq_true]
  exact ckW_ok c b.data.toList 0 rfl h

