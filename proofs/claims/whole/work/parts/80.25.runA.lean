/-! THE SMALL MACHINE THAT MAKES CELLS: constructors, and the law's own body. lay tells ahead what each new cell will be; n cells stand, ss slots are taken; the script is the cell SCR -/
def SCR : Nat := 2300
def tagA (a : ArrayType) : Nat := match a with
  | .int => 1
  | .long => 2
  | .byte => 3
  | .boolean => 4
  | _ => 9
/-- an instruction that makes cells -/
def isNew : Instr → Bool
  | .new _ | .newarray _ | .anewarray _ | .multianewarray _ _ => true
  | _ => false
def ilenA : Instr → Nat
  | .new _ | .anewarray _ => 3
  | .newarray _ => 2
  | .multianewarray _ _ => 4
  | i => ilen i
def dOkA (b : ByteArray) (c : List (Nat × Instr)) : Bool := c.all (fun x => match decode b x.1 with
  | .ok (i, n) => decide (i = x.2) && (Nat.beq (ilenA i) 0 || Nat.beq n (ilenA i))
  | _ => false)
theorem dOkA_n {b : ByteArray} {c : List (Nat × Instr)} (h : dOkA b c = true) {pc : Nat} {i : Instr} (hi : lk c pc = some i) {k : Nat} (hk : ilenA i = k + 1) : decode b pc = .ok (i, k + 1) := by
  have h1 := List.all_eq_true.mp h _ (lk_mem hi)
  dsimp only at h1
  cases hd : decode b pc with
  | error x => rw [hd] at h1; simp at h1
  | ok q =>
    obtain ⟨j, n⟩ := q
    rw [hd] at h1
    simp only [Bool.and_eq_true, Bool.or_eq_true, decide_eq_true_eq] at h1
    obtain ⟨rfl, h2⟩ := h1
    rcases h2 with h2 | h2
    · have h3 := Nat.eq_of_beq_eq_true h2
      rw [hk] at h3
      cases h3
    · rw [Nat.eq_of_beq_eq_true h2, hk]
def codeN (c : List (Nat × Instr)) : List (Nat × Instr) := c.filter (fun x => !isNew x.2)
theorem dOkA_N {b : ByteArray} {c : List (Nat × Instr)} (h : dOkA b c = true) : dOk b (codeN c) = true := by
  apply List.all_eq_true.mpr
  intro x hx
  obtain ⟨h1, h2⟩ := List.mem_filter.mp hx
  have h3 := List.all_eq_true.mp h x h1
  cases hd : decode b x.1 with
  | error z => rw [hd] at h3; simp at h3
  | ok q =>
    obtain ⟨j, n⟩ := q
    rw [hd] at h3
    simp only [Bool.and_eq_true, decide_eq_true_eq] at h3 ⊢
    obtain ⟨rfl, h4⟩ := h3
    refine ⟨rfl, ?_⟩
    have e : ilenA x.2 = ilen x.2 := by
      cases hx2 : x.2 <;> first | rfl | (rw [hx2] at h2; simp [isNew] at h2)
    rw [← e]
    exact h4
theorem lk_codeN : ∀ {c : List (Nat × Instr)} {pc : Nat} {i : Instr}, lk c pc = some i → isNew i = false → lk (codeN c) pc = some i := by
  intro c
  induction c with
  | nil => intro pc i h; simp [lk] at h
  | cons q r ih =>
    intro pc i h hn
    obtain ⟨k, x⟩ := q
    unfold lk at h
    cases hk : Nat.beq k pc with
    | true =>
      rw [hk] at h
      have e : x = i := Option.some.inj h
      subst e
      have e2 : codeN ((k, x) :: r) = (k, x) :: codeN r := by unfold codeN; rw [List.filter_cons_of_pos (by simp [hn])]
      rw [e2]
      unfold lk
      rw [hk]
      rfl
    | false =>
      rw [hk] at h
      by_cases hx : isNew x = true
      · have e2 : codeN ((k, x) :: r) = codeN r := by unfold codeN; rw [List.filter_cons_of_neg (by simp [hx])]
        rw [e2]
        exact ih h hn
      · have e2 : codeN ((k, x) :: r) = (k, x) :: codeN r := by unfold codeN; rw [List.filter_cons_of_pos (by simpa using hx)]
        rw [e2]
        unfold lk
        rw [hk]
        exact ih h hn
abbrev cfgA : Type := Nat × Nat × Nat × List Value × sS
/-- a final field's new reference -/
def pFF (S : sS) (ci k j : Nat) (v : Value) : Option sS := match fT ci j, v with
  | .array _, .ref a => some (uR S k j (some a))
  | .object _, .ref a => some (uR S k j (some a))
  | _, _ => none
def stA (lay : Nat → Nat × Nat) (fL : Nat → Option (Nat × Nat × Bool)) (cC : Nat → Option Nat) (ow : Nat) (sc : Bool) (L : Nat) (xs : Nat → Int32) (i : Instr) (n ss pc : Nat) (st : List Value) (S : sS) : Option cfgA := match i with
  | .new ix => (match cC ix with
    | some ci => bif Nat.blt ci 90 && (layIs lay n 0 ci && Nat.blt n 1900) then some (n + 1, ss + nT ci, pc + 3, .ref n :: st, zC S n) else none
    | none => none)
  | .newarray a => (match st with
    | .int x :: r => bif (decide (¬ x < 0) && Nat.blt (tagA a) 9) && (layIs lay n (tagA a) x.toNatClampNeg && (Nat.ble x.toNatClampNeg 60000000 && Nat.blt n 1900)) then some (n + 1, ss + x.toNatClampNeg, pc + 2, .ref n :: r, zC S n) else none
    | _ => none)
  | .multianewarray ix dm => (match st with
    | .int y :: .int x :: r => (match cC ix with
      | some ci => bif (Nat.beq dm 2 && Nat.beq ci 95) && ((decide (¬ x < 0) && decide (¬ y < 0)) && ((layIs lay n 5 x.toNatClampNeg && (List.range x.toNatClampNeg).all (fun i => layIs lay (n + 1 + i) 1 y.toNatClampNeg)) && ((Nat.ble x.toNatClampNeg 1000000 && Nat.ble y.toNatClampNeg 1000000) && Nat.ble (n + 1 + x.toNatClampNeg) 1900))) then some (n + 1 + x.toNatClampNeg, ss + (x.toNatClampNeg + x.toNatClampNeg * y.toNatClampNeg), pc + 4, .ref n :: r, zM S n x.toNatClampNeg) else none
      | none => none)
    | _ => none)
  | .anewarray ix => (match st with
    | .int x :: r => (match cC ix with
      | some ci => bif Nat.beq ci 4 && (decide (¬ x < 0) && (layIs lay n 6 x.toNatClampNeg && (Nat.ble x.toNatClampNeg 1000000 && Nat.blt n 1900))) then some (n + 1, ss + x.toNatClampNeg, pc + 3, .ref n :: r, zC S n) else none
      | none => none)
    | _ => none)
  | .aastore => (match st with
    | .ref b :: .int x :: .ref k :: r => bif (Nat.beq (lay k).1 6 && inb x (lay k).2) && (layIs lay b 0 4 && (Nat.blt k n && Nat.blt b n)) then some (n, ss, pc + 1, r, uR S k x.toNatClampNeg (some b)) else none
    | _ => none)
  | .putfield ix => (match st with
    | v :: .ref k :: r => (match fL ix with
      | some (ci, j, false) => bif Nat.blt ci 90 && (Nat.beq ci ow && (layIs lay k 0 ci && (gF ci j && Nat.blt k n))) then (match pFF S ci k j v with
        | some S1 => some (n, ss, pc + 3, r, S1)
        | none => none) else none
      | _ => none)
    | _ => none)
  | .iaload => (match st with
    | .int x :: .ref k :: r => bif (sc && Nat.beq k SCR) && inb x L then some (n, ss, pc + 1, .int (xs x.toNatClampNeg) :: r, S) else none
    | _ => none)
  | .arraylength => (match st with
    | .ref k :: r => bif sc && Nat.beq k SCR then some (n, ss, pc + 1, .int (Int32.ofNat L) :: r, S) else none
    | _ => none)
  | _ => none
/-- what a class's link gives -/
def LOk (own : String) (ix ci : Nat) : Prop := (ci = 95 ∧ Cond.classLink own ix "[[I" ∈ lw_good) ∨ (ci < 90 ∧ ∃ (C : String) (T : u_T) (N : Nat), classes[ci]? = some (C, T, N) ∧ (∀ w ∈ u_ws C T N, w ∈ lw_good) ∧ nT ci = N ∧ (∀ k, k < N → parseFieldDescriptor (T k).2.2.1 = some (fT ci k)) ∧ (∀ k, k < N → tyZ (fT ci k) = true) ∧ Cond.classLink own ix C ∈ lw_good ∧ Cond.instantiable C N ∈ lw_good ∧ Cond.initialized C ∈ lw_good)
/-- the array classes' words -/
def AOk : Prop := Cond.arrayClass .int ∈ lw_good ∧ Cond.arrayClass .long ∈ lw_good ∧ Cond.arrayClass .byte ∈ lw_good ∧ Cond.arrayClass .boolean ∈ lw_good
theorem cls_own {ci N : Nat} {C : String} {T : u_T} (h : classes[ci]? = some (C, T, N)) : C = ownS ci ∧ ∀ j, j < N → (T j).1 = C := by
  match ci, h with
  | 0, h => cases h; exact ⟨rfl, by decide +kernel⟩
  | 1, h => cases h; exact ⟨rfl, by decide +kernel⟩
  | 2, h => cases h; exact ⟨rfl, by decide +kernel⟩
  | 3, h => cases h; exact ⟨rfl, by decide +kernel⟩
  | 4, h => cases h; exact ⟨rfl, by decide +kernel⟩
  | 5, h => cases h; exact ⟨rfl, by decide +kernel⟩
  | 6, h => cases h; exact ⟨rfl, by decide +kernel⟩
  | 7, h => cases h; exact ⟨rfl, by decide +kernel⟩
  | 8, h => cases h; exact ⟨rfl, by decide +kernel⟩
  | 9, h => cases h; exact ⟨rfl, by decide +kernel⟩
  | 10, h => cases h; exact ⟨rfl, by decide +kernel⟩
  | 11, h => cases h; exact ⟨rfl, by decide +kernel⟩
  | 12, h => cases h; exact ⟨rfl, by decide +kernel⟩
  | k + 13, h => exact nomatch (show (none : Option vw_C) = some _ from h)
section SA2
variable {p : Program} {l : Launch} {e : Env} {R : Room} {s : State} {m : MethodId} {args : Array Value} {below : List Frame} {meth : Method} {c : Code} {Q : State → Prop}
variable {cc : ByteArray} {nL cells slots h0 n0 : Nat} {D : va_G} {lay : Nat → Nat × Nat} {ad ca : Nat → Nat} {own : String} {ow : Nat} {code : List (Nat × Instr)} {fL : Nat → Option (Nat × Nat × Bool)} {cC : Nat → Option Nat} {sc : Bool} {L : Nat} {xs : Nat → Int32}
/-- the JVM follows a step that makes cells -/
theorem stA_ok (G : CallFix p m c cc nL s args lw_good own) (hd : dOkA cc code = true) (hOv : sOv s) (hA : AOk) (hfL : ∀ ix ci j b, fL ix = some (ci, j, b) → FOk own ix ci j b) (hcC : ∀ ix ci, cC ix = some ci → LOk own ix ci) (hin : meth.name = "<init>" ∧ ownS ow = own ∨ ow = 99) (hX : sc = true → va_X (ad SCR) L xs s s.heap ∧ ad SCR < s.heap.size ∧ ∀ n, n ≤ 1900 → ¬ sA n ad s.heap.size (ad SCR))
    (hs : s.heap.size = h0 + n0) {n n1 ss ss1 pc pc1 : Nat} {lv : List (Nat × Value)} {st st1 : List Value} {S S1 : sS} {i : Instr} (hi : lk code pc = some i) (h : stA lay fL cC ow sc L xs i n ss pc st S = some (n1, ss1, pc1, st1, S1)) (had : n < n1 → ∀ k, k < 1900 → ad k = h0 + k) (h19n : n ≤ 1900) (hn : n = n0 + cells) (hRc : cells + (n1 - n) ≤ R.cells) (hRs : slots + (ss1 - ss) ≤ R.slots)
    (kk : OkP p l e R s m args below meth c D lay n1 ad ca nL (cells + (n1 - n)) (slots + (ss1 - ss)) Q pc1 lv st1 S1) : OkP p l e R s m args below meth c D lay n ad ca nL cells slots Q pc lv st S := by
  have hsz : ∀ {H : Heap} {locs : List Loc}, (∀ k, k < 1900 → ad k = h0 + k) → n ≤ 1900 → sB D lay n ad ca S s H locs → H.size ≤ s.heap.size + cells → H.size = h0 + n := fun had h19 B hz => sB_size B (fun k hk => had k (by omega)) hs hn hz
  cases i with
  | new ix =>
    unfold stA at h
    dsimp only at h
    split at h
    · next ci hc =>
      obtain ⟨hb, h⟩ := bif_s h
      rw [Bool.and_eq_true, Bool.and_eq_true] at hb
      cases h
      have had := had (by omega)
      have hl := layIs_at hb.2.1
      have h19 : n < 1900 := Nat.le_of_ble_eq_true hb.2.2
      have h90 : ci < 90 := Nat.le_of_ble_eq_true hb.1
      rw [show n + 1 - n = 1 by omega] at hRc kk
      rw [show ss + nT ci - ss = nT ci by omega] at hRs kk
      rcases hcC _ _ hc with ⟨h95, -⟩ | ⟨-, C, T, N, hcl, hi2, hN, hty, hz, k1, k2, k3⟩
      · omega
      · intro ls H locs hl0 B
        subst hN
        refine w_size (fun hz2 => ?_)
        exact r_newO G B ((hsz had (by omega) B hz2).trans (had n h19).symm) hcl hi2 rfl hty hz hl k1 k2 k3 hRc hRs (dOkA_n hd hi rfl) (fun H1 B1 => kk ls H1 locs hl0 B1)
    · cases h
  | newarray a =>
    unfold stA at h
    dsimp only at h
    split at h
    · next x r =>
      obtain ⟨hb, h⟩ := bif_s h
      simp only [Bool.and_eq_true, decide_eq_true_eq] at hb
      obtain ⟨⟨b1, b2⟩, b3, b4, b5⟩ := hb
      cases h
      have had := had (by omega)
      have hl := layIs_at b3
      have h19 : n < 1900 := Nat.le_of_ble_eq_true b5
      rw [show n + 1 - n = 1 by omega] at hRc kk
      rw [show ss + x.toNatClampNeg - ss = x.toNatClampNeg by omega] at hRs kk
      intro ls H locs hl0 B
      refine w_size (fun hz2 => ?_)
      have hH := (hsz had (by omega) B hz2).trans (had n h19).symm
      cases a with
      | int => exact r_newA G B hH (Or.inl ⟨rfl, rfl⟩) hl b1 rfl b4 hA.1 hRc hRs (dOkA_n hd hi rfl) (fun H1 B1 => kk ls H1 locs hl0 B1)
      | long => exact r_newA G B hH (Or.inr (Or.inl ⟨rfl, rfl⟩)) hl b1 rfl b4 hA.2.1 hRc hRs (dOkA_n hd hi rfl) (fun H1 B1 => kk ls H1 locs hl0 B1)
      | byte => exact r_newA G B hH (Or.inr (Or.inr (Or.inl ⟨rfl, rfl⟩))) hl b1 rfl b4 hA.2.2.1 hRc hRs (dOkA_n hd hi rfl) (fun H1 B1 => kk ls H1 locs hl0 B1)
      | boolean => exact r_newA G B hH (Or.inr (Or.inr (Or.inr ⟨rfl, rfl⟩))) hl b1 rfl b4 hA.2.2.2 hRc hRs (dOkA_n hd hi rfl) (fun H1 B1 => kk ls H1 locs hl0 B1)
      | _ => cases b2
    · cases h
  | multianewarray ix dm =>
    unfold stA at h
    dsimp only at h
    split at h
    · next y x r =>
      split at h
      · next ci hc =>
        obtain ⟨hb, h⟩ := bif_s h
        simp only [Bool.and_eq_true, decide_eq_true_eq] at hb
        obtain ⟨⟨b0, b95⟩, ⟨bx, b_y⟩, ⟨bl, br⟩, ⟨bN, bK⟩, b19⟩ := hb
        cases h
        have had := had (by omega)
        have h2 := Nat.eq_of_beq_eq_true b0
        subst h2
        have h95 := Nat.eq_of_beq_eq_true b95
        have h19 := Nat.le_of_ble_eq_true b19
        have hl := layIs_at bl
        have hr : ∀ i, i < x.toNatClampNeg → lay (n + 1 + i) = (1, y.toNatClampNeg) := fun i hi => layIs_at (List.all_eq_true.mp br i (List.mem_range.mpr hi))
        rw [show n + 1 + x.toNatClampNeg - n = 1 + x.toNatClampNeg by omega] at hRc kk
        rw [show ss + (x.toNatClampNeg + x.toNatClampNeg * y.toNatClampNeg) - ss = x.toNatClampNeg + x.toNatClampNeg * y.toNatClampNeg from Nat.add_sub_cancel_left _ _] at hRs kk
        intro ls H locs hl0 B
        refine w_size (fun hz2 => ?_)
        rcases hcC _ _ hc with ⟨-, hcl⟩ | ⟨h90, -⟩
        · exact r_mna G B hOv (fun k hk => had k (by omega)) (hsz had (by omega) B hz2) hl hr bx b_y rfl rfl bN bK hcl hA.1 hRc hRs (dOkA_n hd hi rfl) (fun H1 B1 => kk ls H1 locs hl0 B1)
        · omega
      · cases h
    · cases h
  | anewarray ix =>
    unfold stA at h
    dsimp only at h
    split at h
    · next x r =>
      split at h
      · next ci hc =>
        obtain ⟨hb, h⟩ := bif_s h
        simp only [Bool.and_eq_true, decide_eq_true_eq] at hb
        obtain ⟨b0, b1, b3, b4, b5⟩ := hb
        cases h
        have had := had (by omega)
        have hl := layIs_at b3
        have h19 : n < 1900 := Nat.le_of_ble_eq_true b5
        have h4 := Nat.eq_of_beq_eq_true b0
        subst h4
        rw [show n + 1 - n = 1 by omega] at hRc kk
        rw [show ss + x.toNatClampNeg - ss = x.toNatClampNeg by omega] at hRs kk
        intro ls H locs hl0 B
        refine w_size (fun hz2 => ?_)
        rcases hcC _ _ hc with ⟨h95, -⟩ | ⟨-, C, T, N, hcl, hi2, hN, hty, hz, k1, k2, k3⟩
        · omega
        · cases hcl
          exact r_newR G B hOv ((hsz had (by omega) B hz2).trans (had n h19).symm) hl b1 rfl b4 k1 hRc hRs (dOkA_n hd hi rfl) (fun H1 B1 => kk ls H1 locs hl0 B1)
      · cases h
    · cases h
  | aastore =>
    unfold stA at h
    dsimp only at h
    split at h
    · next b x k r =>
      obtain ⟨hb, h⟩ := bif_s h
      simp only [Bool.and_eq_true] at hb
      obtain ⟨⟨b1, b2⟩, b3, b4, b5⟩ := hb
      cases h
      rw [Nat.sub_self, Nat.sub_self] at kk
      exact fun ls H locs hl B => r_astR G B (lay_tag b1) (Nat.le_of_ble_eq_true b4) (layIs_at b3) (Nat.le_of_ble_eq_true b5) (inb_at b2) (dOkA_n hd hi rfl) (fun H1 locs1 B1 => kk ls H1 locs1 hl B1)
    · cases h
  | putfield ix =>
    unfold stA at h
    dsimp only at h
    split at h
    · next v k r =>
      split at h
      · next ci j hf =>
        obtain ⟨hb, h⟩ := bif_s h
        simp only [Bool.and_eq_true] at hb
        obtain ⟨h90, how, b1, b2, b3⟩ := hb
        obtain ⟨C, T, N, hc, hi2, hN, hj, hty, hnm, hlk⟩ := (hfL _ _ _ _ hf).own h90
        have hl := layIs_at b1
        have hkn : k < n := Nat.le_of_ble_eq_true b3
        have hci := Nat.eq_of_beq_eq_true how
        have hfin : (T j).2.2.2 = true := by
          unfold gF at b2
          rw [hc] at b2
          exact b2
        split at h
        · next S2 hp =>
          cases h
          rw [Nat.sub_self, Nat.sub_self] at kk
          obtain ⟨hC, hTj⟩ := cls_own hc
          obtain ⟨hnm2, hown⟩ : meth.name = "<init>" ∧ ownS ow = own := by
            rcases hin with z | z
            · exact z
            · have : ci < 90 := Nat.le_of_ble_eq_true h90
              omega
          have hdecl : (T j).1 = own := by rw [hTj j hj, hC, hci, hown]
          unfold pFF at hp
          split at hp
          · next ty a hfx =>
            cases hp
            exact fun ls H locs hl0 B => r_putF (v := some a) G B hty hnm hc hi2 hN hl hkn hj hlk hfin hnm2 hdecl (by rw [hfx]; rfl) (by rw [hfx]; rfl) (by rw [hfx]; rfl) (dOkA_n hd hi rfl) (fun H1 locs1 B1 => kk ls H1 locs1 hl0 B1)
          · next ty a hfx =>
            cases hp
            exact fun ls H locs hl0 B => r_putF (v := some a) G B hty hnm hc hi2 hN hl hkn hj hlk hfin hnm2 hdecl (by rw [hfx]; rfl) (by rw [hfx]; rfl) (by rw [hfx]; rfl) (dOkA_n hd hi rfl) (fun H1 locs1 B1 => kk ls H1 locs1 hl0 B1)
          · cases hp
        · cases h
      · cases h
    · cases h
  | iaload =>
    unfold stA at h
    dsimp only at h
    split at h
    · next x k r =>
      obtain ⟨hb, h⟩ := bif_s h
      rw [Bool.and_eq_true, Bool.and_eq_true] at hb
      cases h
      rw [Nat.sub_self, Nat.sub_self] at kk
      have hX := hX hb.1.1
      have hk := Nat.eq_of_beq_eq_true hb.1.2
      subst hk
      have hin2 := inb_at hb.2
      exact fun ls H locs hl B => va_sld G.1 G.2.1 hX.1 hX.2.1 (hX.2.2 n h19n) B.2.2.2.1 hin2 (dOkA_n hd hi rfl) (kk ls H locs hl B)
    · cases h
  | arraylength =>
    unfold stA at h
    dsimp only at h
    split at h
    · next k r =>
      obtain ⟨hb, h⟩ := bif_s h
      rw [Bool.and_eq_true] at hb
      cases h
      rw [Nat.sub_self, Nat.sub_self] at kk
      have hX := hX hb.1
      have hk := Nat.eq_of_beq_eq_true hb.2
      subst hk
      exact fun ls H locs hl B => va_slen G.1 G.2.1 hX.1 hX.2.1 (hX.2.2 n h19n) B.2.2.2.1 (dOkA_n hd hi rfl) (kk ls H locs hl B)
    · cases h
  | _ => exact nomatch (show (none : Option cfgA) = some _ from h)
end SA2


