/-! THE SAME FOR CODE THAT MAKES CELLS -/
abbrev acfA : Type := Nat × Nat × Nat × List aV × aT
abbrev aFA : Type := Nat → Nat → Nat → List aV → aT → Option acfA
abbrev aOA : Type := Sum aF (Sum aFA (Sum (Nat × mT × Nat) Nat))
abbrev acalA : Type := mT → List aV → aT → Nat → Nat → Option (Option aV × aT × Nat × Nat)
noncomputable def emp (T : aT) (n : Nat) : Bool := bif Nat.blt n 1024 then (match rdT 10 T n with
  | [] => true
  | _ :: _ => false) else true
noncomputable def empN (T : aT) (N : Nat) : Nat → Bool := Nat.rec (motive := fun _ => Nat → Bool) (fun _ => true) (fun _ ih k => bif emp T k then frcN (Nat.succ k) ih else false) N
noncomputable def rowN (lay : Nat → Nat × Nat) (y N : Nat) : Nat → Bool := Nat.rec (motive := fun _ => Nat → Bool) (fun _ => true) (fun _ ih k => bif layIs lay k 1 y then frcN (Nat.succ k) ih else false) N
noncomputable def rfs (N : Nat) : Nat → Nat → Option aC := Nat.rec (motive := fun _ => Nat → Nat → Option aC) (fun _ _ => some []) (fun _ ih i a => frcN (Nat.succ i) (fun i1 => frcN (Nat.succ a) (fun a1 => Option.casesOn (ih i1 a1) none (fun t => some ((i, .inr (.inr (some a))) :: t))))) N
noncomputable def nxA (n ss pc : Nat) (st : List aV) (T : aT) : Option acfA := frcN n (fun n => frcN ss (fun ss => frcN pc (fun pc => some (n, ss, pc, st, T))))
theorem nxA_eq {n ss pc : Nat} {st : List aV} {T : aT} : nxA n ss pc st T = some (n, ss, pc, st, T) := by
  unfold nxA
  rw [frcN_eq, frcN_eq, frcN_eq]
noncomputable def astA (lay : Nat → Nat × Nat) (fL : Nat → Option (Nat × Nat × Bool)) (cC : Nat → Option Nat) (ow : Nat) (sc : Bool) (L : Nat) (axs : List aI) (i : Instr) : Option aFA := match i with
  | .new ix => (match cC ix with
    | some ci => bif Nat.blt ci 90 then some (fun n ss pc st T => bif layIs lay n 0 ci && (Nat.blt n 1900 && emp T n) then nxA (Nat.succ n) (Nat.add ss (nT ci)) (Nat.add pc 3) (.inr (.inr (some n)) :: st) T else none) else none
    | none => none)
  | .newarray a => some (fun n ss pc st T => match st with
    | .inl (.inl (.ofNat x)) :: r => bif Nat.blt (tagA a) 9 && (layIs lay n (tagA a) x && (Nat.ble x 60000000 && (Nat.blt n 1900 && emp T n))) then nxA (Nat.succ n) (Nat.add ss x) (Nat.add pc 2) (.inr (.inr (some n)) :: r) T else none
    | _ => none)
  | .multianewarray ix dm => (match cC ix with
    | some ci => bif Nat.beq dm 2 && Nat.beq ci 95 then some (fun n ss pc st T => match st with
      | .inl (.inl (.ofNat y)) :: .inl (.inl (.ofNat x)) :: r => bif (layIs lay n 5 x && rowN lay y x (Nat.succ n)) && ((Nat.ble x 1000000 && Nat.ble y 1000000) && (Nat.ble (Nat.add (Nat.succ n) x) 1900 && (Nat.blt n 1024 && empN T (Nat.succ x) n))) then (match rfs x 0 (Nat.succ n) with
        | some l => (match upT 10 T n (fun _ => some l) with
          | some T1 => nxA (Nat.add (Nat.succ n) x) (Nat.add ss (Nat.add x (Nat.mul x y))) (Nat.add pc 4) (.inr (.inr (some n)) :: r) T1
          | none => none)
        | none => none) else none
      | _ => none) else none
    | none => none)
  | .anewarray ix => (match cC ix with
    | some ci => bif Nat.beq ci 4 then some (fun n ss pc st T => match st with
      | .inl (.inl (.ofNat x)) :: r => bif layIs lay n 6 x && (Nat.ble x 1000000 && (Nat.blt n 1900 && emp T n)) then nxA (Nat.succ n) (Nat.add ss x) (Nat.add pc 3) (.inr (.inr (some n)) :: r) T else none
      | _ => none) else none
    | none => none)
  | .aastore => some (fun n ss pc st T => match st with
    | .inr (.inr (some b)) :: .inl a :: .inr (.inr (some k)) :: r => (match idx a (lay k).2 with
      | some x => bif Nat.beq (lay k).1 6 && (layIs lay b 0 4 && (Nat.blt k n && Nat.blt b n)) then (match putT T k x (.inr (.inr (some b))) with
        | some T1 => nxA n ss (Nat.succ pc) r T1
        | none => none) else none
      | none => none)
    | _ => none)
  | .putfield ix => (match fL ix with
    | some (ci, j, false) => bif Nat.blt ci 90 && (Nat.beq ci ow && gF ci j) then some (fun n ss pc st T => match st with
      | .inr (.inr (some a)) :: .inr (.inr (some k)) :: r => bif layIs lay k 0 ci && Nat.blt k n then (match fT ci j with
        | .array _ => (match putT T k j (.inr (.inr (some a))) with
          | some T1 => nxA n ss (Nat.add pc 3) r T1
          | none => none)
        | .object _ => (match putT T k j (.inr (.inr (some a))) with
          | some T1 => nxA n ss (Nat.add pc 3) r T1
          | none => none)
        | _ => none) else none
      | _ => none) else none
    | _ => none)
  | .iaload => bif sc then some (fun n ss pc st T => match st with
    | .inl a :: .inr (.inr (some k)) :: r => (match idx a L with
      | some x => bif Nat.beq k SCR then (match axs[x]? with
        | some v => nxA n ss (Nat.succ pc) (.inl v :: r) T
        | none => none) else none
      | none => none)
    | _ => none) else none
  | .arraylength => bif sc then some (fun n ss pc st T => match st with
    | .inr (.inr (some k)) :: r => bif Nat.beq k SCR then frcA (.inl (Int32.ofNat L).toInt) (fun a => nxA n ss (Nat.succ pc) (.inl a :: r) T) else none
    | _ => none) else none
  | _ => none
def notA (fL : Nat → Option (Nat × Nat × Bool)) (sc : Bool) (i : Instr) : Bool := match i with
  | .new _ => false
  | .newarray _ => false
  | .multianewarray _ _ => false
  | .anewarray _ => false
  | .aastore => false
  | .putfield ix => (match fL ix with
    | some (ci, j, false) => !(gF ci j)
    | _ => true)
  | .iaload => !sc
  | .arraylength => !sc
  | _ => true
theorem notA_ok {lay : Nat → Nat × Nat} {fL : Nat → Option (Nat × Nat × Bool)} {cC : Nat → Option Nat} {ow : Nat} {sc : Bool} {L : Nat} {xs : Nat → Int32} {i : Instr} {n ss pc : Nat} {st : List Value} {S : sS} (h : notA fL sc i = true) : stA lay fL cC ow sc L xs i n ss pc st S = none := by
  cases i with
  | new ix => cases h
  | newarray a => cases h
  | multianewarray ix dm => cases h
  | anewarray ix => cases h
  | aastore => cases h
  | putfield ix =>
    unfold notA at h
    unfold stA
    dsimp only at h ⊢
    split
    · split
      · next hf =>
        rw [hf] at h
        replace h : (!(gF _ _)) = true := h
        rw [Bool.not_eq_true'] at h
        rw [h]
        simp
      · rfl
    · rfl
  | iaload =>
    replace h : (!sc) = true := h
    rw [Bool.not_eq_true'] at h
    subst h
    unfold stA
    dsimp only
    split
    · rfl
    · rfl
  | arraylength =>
    replace h : (!sc) = true := h
    rw [Bool.not_eq_true'] at h
    subst h
    unfold stA
    dsimp only
    split
    · rfl
    · rfl
  | _ => rfl
theorem emp_ok {T : aT} {n : Nat} (h : emp T n = true) (j : Nat) : lookT T n j = none := by
  unfold emp at h
  unfold lookT
  cases hb : Nat.blt n 1024 with
  | false => rfl
  | true =>
    rw [hb] at h
    replace h : (match (generalizing := false) rdT 10 T n with | [] => true | _ :: _ => false) = true := h
    split at h
    · next e => rw [e]; rfl
    · cases h
theorem empN_ok {T : aT} : ∀ (N k : Nat), empN T N k = true → ∀ i, k ≤ i → i < k + N → emp T i = true := by
  intro N
  induction N with
  | zero => intro k _ i h1 h2; omega
  | succ N ih =>
    intro k h i h1 h2
    replace h : (bif emp T k then frcN (Nat.succ k) (empN T N) else false) = true := h
    rw [frcN_eq] at h
    cases he : emp T k with
    | false => rw [he] at h; cases h
    | true =>
      rw [he] at h
      by_cases e : i = k
      · rw [e]; exact he
      · exact ih (k + 1) h i (by omega) (by omega)
theorem rowN_ok {lay : Nat → Nat × Nat} {y : Nat} : ∀ (N k : Nat), rowN lay y N k = true → (List.range N).all (fun i => layIs lay (k + i) 1 y) = true := by
  intro N k h
  have g : ∀ (N k : Nat), rowN lay y N k = true → ∀ i, k ≤ i → i < k + N → layIs lay i 1 y = true := by
    intro N
    induction N with
    | zero => intro k _ i h1 h2; omega
    | succ N ih =>
      intro k h i h1 h2
      replace h : (bif layIs lay k 1 y then frcN (Nat.succ k) (rowN lay y N) else false) = true := h
      rw [frcN_eq] at h
      cases he : layIs lay k 1 y with
      | false => rw [he] at h; cases h
      | true =>
        rw [he] at h
        by_cases e : i = k
        · rw [e]; exact he
        · exact ih (k + 1) h i (by omega) (by omega)
  refine List.all_eq_true.mpr (fun i hi => ?_)
  have := List.mem_range.mp hi
  exact g N k h (k + i) (by omega) (by omega)
theorem rfs_ok : ∀ (N i a : Nat) (l : aC), rfs N i a = some l → (List.Pairwise (fun p q => p.1 < q.1) l ∧ (∀ q ∈ l, i ≤ q.1)) ∧ ∀ j, lkV l j = if i ≤ j ∧ j < i + N then some (.inr (.inr (some (a + (j - i))))) else none := by
  intro N
  induction N with
  | zero =>
    intro i a l h
    cases (Option.some.inj (show some [] = some l from h) : [] = l)
    refine ⟨⟨List.Pairwise.nil, fun q hq => nomatch hq⟩, fun j => ?_⟩
    rw [if_neg (by omega)]
    rfl
  | succ N ih =>
    intro i a l h
    replace h : frcN (Nat.succ i) (fun i1 => frcN (Nat.succ a) (fun a1 => Option.casesOn (motive := fun _ => Option aC) (rfs N i1 a1) none (fun t => some ((i, .inr (.inr (some a))) :: t)))) = some l := h
    rw [frcN_eq, frcN_eq] at h
    obtain ⟨t, h1, h2⟩ := ocase h
    cases h2
    obtain ⟨⟨q1, q2⟩, q3⟩ := ih (i + 1) (a + 1) t h1
    refine ⟨⟨List.pairwise_cons.mpr ⟨fun q hq => Nat.lt_of_lt_of_le (Nat.lt_succ_self i) (q2 q hq), q1⟩, fun q hq => ?_⟩, fun j => ?_⟩
    · rcases List.mem_cons.mp hq with z | z
      · rw [z]; exact Nat.le_refl _
      · exact Nat.le_trans (Nat.le_succ i) (q2 q z)
    · rw [lkV_cons]
      by_cases e : i = j
      · subst e
        rw [Nat.beq_refl, if_pos (by omega), Nat.sub_self]
        rfl
      · rw [beq_ne e]
        show lkV t j = _
        rw [q3 j]
        by_cases hc : i + 1 ≤ j ∧ j < i + 1 + N
        · rw [if_pos hc, if_pos (by omega)]
          congr 4
          omega
        · rw [if_neg hc, if_neg (by omega)]
theorem zC_ok {T : aT} {S : sS} {n : Nat} (hS : gS T S) (h : emp T n = true) : gS T (zC S n) := by
  refine ⟨hS.1, fun k j => ?_⟩
  by_cases e : k = n
  · subst e
    rw [emp_ok h j]
    show va_up S.1 k (fun _ => 0) k j = 0 ∧ va_up S.2.1 k (fun _ => 0) k j = 0 ∧ va_up S.2.2 k (fun _ => none) k j = none
    rw [va_up_self, va_up_self, va_up_self]
    exact ⟨rfl, rfl, rfl⟩
  · have g := hS.2 k j
    have e1 : (zC S n).1 k = S.1 k := va_up_ne _ _ e
    have e2 : (zC S n).2.1 k = S.2.1 k := va_up_ne _ _ e
    have e3 : (zC S n).2.2 k = S.2.2 k := va_up_ne _ _ e
    unfold gC at g ⊢
    rw [e1, e2, e3]
    exact g
theorem zM_ok {T T1 : aT} {S : sS} {n N : Nat} {l : aC} (hS : gS T S) (hn : n < 1024) (he : empN T (Nat.succ N) n = true) (hl : rfs N 0 (Nat.succ n) = some l) (hu : upT 10 T n (fun _ => some l) = some T1) : gS T1 (zM S n N) := by
  obtain ⟨g1, g2⟩ := rdT_upT 10 T T1 n _ hn hu
  have g1 : l = rdT 10 T1 n := Option.some.inj g1
  obtain ⟨⟨q1, -⟩, q3⟩ := rfs_ok _ _ _ _ hl
  refine ⟨fun k hk => ?_, fun k j => ?_⟩
  · by_cases e : k = n
    · rw [e, ← g1]; exact q1
    · rw [g2 k hk e]; exact hS.1 k hk
  · by_cases e : k = n
    · subst e
      have e0 : lookT T1 k j = lkV l j := by
        unfold lookT
        rw [show Nat.blt k 1024 = true from Nat.ble_eq_true_of_le hn, ← g1]
        rfl
      rw [e0, q3 j]
      have c : k ≤ k ∧ k ≤ k + N := ⟨Nat.le_refl _, by omega⟩
      have e1 : (zM S k N).1 k j = 0 := by unfold zM; simp only [if_pos c]
      have e2 : (zM S k N).2.1 k j = 0 := by unfold zM; simp only [if_pos c]
      have e3 : (zM S k N).2.2 k j = if j < N then some (k + 1 + j) else none := by unfold zM; simp
      by_cases hj : j < N
      · rw [if_pos (show 0 ≤ j ∧ j < 0 + N by omega)]
        refine ⟨e1, e2, ?_⟩
        rw [e3, if_pos hj]
        rfl
      · rw [if_neg (show ¬ (0 ≤ j ∧ j < 0 + N) by omega)]
        refine ⟨e1, e2, ?_⟩
        rw [e3, if_neg hj]
    · have hlook : lookT T1 k j = lookT T k j := by
        unfold lookT
        by_cases hk : k < 1024
        · rw [g2 k hk e]
        · have : Nat.blt k 1024 = false := by
            cases hz : Nat.blt k 1024 with
            | false => rfl
            | true => exact absurd (Nat.le_of_ble_eq_true hz) hk
          rw [this]; rfl
      rw [hlook]
      by_cases c : n ≤ k ∧ k ≤ n + N
      · rw [emp_ok (empN_ok _ _ he k c.1 (by omega)) j]
        unfold zM gC
        simp only [if_pos c, if_neg e]
        exact ⟨trivial, trivial, trivial⟩
      · have g := hS.2 k j
        unfold gC at g ⊢
        have e1 : (zM S n N).1 k = S.1 k := by unfold zM; simp only [if_neg c]
        have e2 : (zM S n N).2.1 k = S.2.1 k := by unfold zM; simp only [if_neg c]
        have e3 : (zM S n N).2.2 k = S.2.2 k := by unfold zM; simp only [if_neg c, if_neg e]
        rw [e1, e2, e3]
        exact g
theorem kn_nat {k : Nat} {x : Int32} (h : gI (.inl (.ofNat k)) x) : ¬ x < 0 ∧ x.toNatClampNeg = k := by
  replace h : x.toInt = Int.ofNat k := h
  refine ⟨?_, ?_⟩
  · rw [Int32.lt_iff_toInt_lt, h]
    exact fun z => absurd z (by simp)
  · show x.toInt.toNat = k
    rw [h]
    rfl
set_option maxHeartbeats 2000000 in
theorem astA_ok {lay : Nat → Nat × Nat} {fL : Nat → Option (Nat × Nat × Bool)} {cC : Nat → Option Nat} {ow : Nat} {sc : Bool} {L : Nat} {axs : List aI} {xs : Nat → Int32} (hx : ∀ i a, axs[i]? = some a → gI a (xs i)) {i : Instr} {f : aFA} (hf : astA lay fL cC ow sc L axs i = some f) {n ss pc n1 ss1 pc1 : Nat} {st : List Value} {as as1 : List aV} {S : sS} {T T1 : aT} (hs : gSt as st) (hS : gS T S) (h : f n ss pc as T = some (n1, ss1, pc1, as1, T1)) :
    ∃ st1 S1, stA lay fL cC ow sc L xs i n ss pc st S = some (n1, ss1, pc1, st1, S1) ∧ gSt as1 st1 ∧ gS T1 S1 := by
  unfold astA at hf
  split at hf
  · next ix =>
    split at hf
    · next ci hci =>
      obtain ⟨h90, hf⟩ := bif_s hf
      cases hf
      obtain ⟨hb, h⟩ := bif_s h
      rw [nxA_eq] at h
      cases h
      rw [Bool.and_eq_true, Bool.and_eq_true] at hb
      refine ⟨_, _, ?_, gcons rfl hs, zC_ok hS hb.2.2⟩
      unfold stA
      dsimp only
      rw [hci]
      dsimp only
      rw [h90, hb.1, hb.2.1]
      rfl
    · cases hf
  · next a =>
    cases hf
    dsimp only at h
    split at h
    · next x r =>
      obtain ⟨hb, h⟩ := bif_s h
      rw [nxA_eq] at h
      cases h
      simp only [Bool.and_eq_true] at hb
      obtain ⟨b1, b2, b3, b4, b5⟩ := hb
      obtain ⟨y, s, rfl, hy, hr⟩ := g1i hs
      obtain ⟨k1, k2⟩ := kn_nat hy
      refine ⟨_, _, ?_, gcons rfl hr, zC_ok hS b5⟩
      unfold stA
      dsimp only
      rw [k2, show decide (¬ y < 0) = true from decide_eq_true k1, b1, b2, b3, b4]
      rfl
    · cases h
  · next ix dm =>
    split at hf
    · next ci hci =>
      obtain ⟨hdm, hf⟩ := bif_s hf
      cases hf
      dsimp only at h
      split at h
      · next y x r =>
        obtain ⟨hb, h⟩ := bif_s h
        simp only [Bool.and_eq_true] at hb
        obtain ⟨⟨b1, b2⟩, ⟨b3, b4⟩, b5, b6, b7⟩ := hb
        split at h
        · next l hl =>
          split at h
          · next T2 hu =>
            rw [nxA_eq] at h
            cases h
            obtain ⟨y', s, rfl, hy, hr⟩ := g1i hs
            obtain ⟨x', s', rfl, hx', hr'⟩ := g1i hr
            obtain ⟨k1, k2⟩ := kn_nat hy
            obtain ⟨k3, k4⟩ := kn_nat hx'
            refine ⟨_, _, ?_, gcons rfl hr', zM_ok hS (Nat.le_of_ble_eq_true b6) b7 hl hu⟩
            unfold stA
            dsimp only
            rw [hci]
            dsimp only
            rw [k2, k4, hdm, show decide (¬ y' < 0) = true from decide_eq_true k1, show decide (¬ x' < 0) = true from decide_eq_true k3, b1, rowN_ok _ _ b2, b3, b4, show Nat.ble (n + 1 + x) 1900 = true from b5]
            rfl
          · cases h
        · cases h
      · cases h
    · cases hf
  · next ix =>
    split at hf
    · next ci hci =>
      obtain ⟨h4, hf⟩ := bif_s hf
      cases hf
      dsimp only at h
      split at h
      · next x r =>
        obtain ⟨hb, h⟩ := bif_s h
        rw [nxA_eq] at h
        cases h
        simp only [Bool.and_eq_true] at hb
        obtain ⟨b2, b3, b4, b5⟩ := hb
        obtain ⟨y, s, rfl, hy, hr⟩ := g1i hs
        obtain ⟨k1, k2⟩ := kn_nat hy
        refine ⟨_, _, ?_, gcons rfl hr, zC_ok hS b5⟩
        unfold stA
        dsimp only
        rw [hci]
        dsimp only
        rw [k2, h4, show decide (¬ y < 0) = true from decide_eq_true k1, b2, b3, b4]
        rfl
      · cases h
    · cases hf
  · cases hf
    dsimp only at h
    split at h
    · next b a k r =>
      split at h
      · next x hid =>
        obtain ⟨hb, h⟩ := bif_s h
        simp only [Bool.and_eq_true] at hb
        obtain ⟨b1, b2, b3, b4⟩ := hb
        split at h
        · next T2 hp =>
          rw [nxA_eq] at h
          cases h
          obtain ⟨s, rfl, hr⟩ := g1r hs
          obtain ⟨y, s', rfl, hy, hr'⟩ := g1i hr
          obtain ⟨s2, rfl, hr2⟩ := g1r hr'
          obtain ⟨i1, i2⟩ := idx_ok hy hid
          refine ⟨_, _, ?_, hr2, putR_ok hS hp⟩
          unfold stA
          dsimp only
          rw [i1, i2, b1, b2, b3, b4]
          rfl
        · cases h
      · cases h
    · cases h
  · next ix =>
    split at hf
    · next ci j hfl =>
      obtain ⟨hg, hf⟩ := bif_s hf
      cases hf
      simp only [Bool.and_eq_true] at hg
      obtain ⟨c1, c2, c3⟩ := hg
      dsimp only at h
      split at h
      · next a k r =>
        obtain ⟨hb, h⟩ := bif_s h
        simp only [Bool.and_eq_true] at hb
        obtain ⟨b1, b2⟩ := hb
        obtain ⟨s, rfl, hr⟩ := g1r hs
        obtain ⟨s', rfl, hr'⟩ := g1r hr
        split at h
        · next ty hty =>
          split at h
          · next T2 hp =>
            rw [nxA_eq] at h
            cases h
            refine ⟨_, _, ?_, hr', putR_ok hS hp⟩
            unfold stA
            dsimp only
            rw [hfl]
            dsimp only
            rw [c1, c2, c3, b1, b2]
            unfold pFF
            rw [hty]
            rfl
          · cases h
        · next ty hty =>
          split at h
          · next T2 hp =>
            rw [nxA_eq] at h
            cases h
            refine ⟨_, _, ?_, hr', putR_ok hS hp⟩
            unfold stA
            dsimp only
            rw [hfl]
            dsimp only
            rw [c1, c2, c3, b1, b2]
            unfold pFF
            rw [hty]
            rfl
          · cases h
        · cases h
      · cases h
    · cases hf
  · obtain ⟨hsc, hf⟩ := bif_s hf
    cases hf
    dsimp only at h
    split at h
    · next a k r =>
      split at h
      · next x hid =>
        obtain ⟨hb, h⟩ := bif_s h
        split at h
        · next v hv =>
          rw [nxA_eq] at h
          cases h
          obtain ⟨y, s, rfl, hy, hr⟩ := g1i hs
          obtain ⟨s', rfl, hr'⟩ := g1r hr
          obtain ⟨i1, i2⟩ := idx_ok hy hid
          refine ⟨_, _, ?_, gcons ⟨_, rfl, hx _ _ hv⟩ hr', hS⟩
          unfold stA
          dsimp only
          rw [i1, i2, hsc, hb]
          rfl
        · cases h
      · cases h
    · cases h
  · obtain ⟨hsc, hf⟩ := bif_s hf
    cases hf
    dsimp only at h
    split at h
    · next k r =>
      obtain ⟨hb, h⟩ := bif_s h
      rw [frcA_eq, nxA_eq] at h
      cases h
      obtain ⟨s, rfl, hr⟩ := g1r hs
      refine ⟨_, _, ?_, gcons ⟨_, rfl, rfl⟩ hr, hS⟩
      unfold stA
      dsimp only
      rw [hsc, hb]
      rfl
    · cases h
  · cases hf


