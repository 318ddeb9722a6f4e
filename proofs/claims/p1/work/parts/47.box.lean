/-! RANGES THAT COVER ALL ARGUMENTS; the law's first rows -/
abbrev bxT : Type := List (aI × List (aI × List aI))
noncomputable def bx3 (ev : aI → Bool) (l : List aI) : Bool := List.rec true (fun c _ ih => bif ev c then ih else false) l
noncomputable def bx2 (ev : aI → aI → Bool) (l : List (aI × List aI)) : Bool := List.rec true (fun q _ ih => Prod.casesOn q (fun b k => bif bx3 (ev b) k then ih else false)) l
noncomputable def bx1 (ev : aI → aI → aI → Bool) (l : bxT) : Bool := List.rec true (fun p _ ih => Prod.casesOn p (fun a m => bif bx2 (ev a) m then ih else false)) l
theorem bx3_ok {ev : aI → Bool} : ∀ {l : List aI}, bx3 ev l = true → ∀ c ∈ l, ev c = true := by
  intro l
  induction l with
  | nil => intro _ c hc; cases hc
  | cons a t ih =>
    intro h c hc
    obtain ⟨h1, h2⟩ := bif_t (show (bif ev a then bx3 ev t else false) = true from h)
    rcases List.mem_cons.mp hc with z | z
    · rw [z]; exact h1
    · exact ih h2 c z
theorem bx2_ok {ev : aI → aI → Bool} : ∀ {l : List (aI × List aI)}, bx2 ev l = true → ∀ q ∈ l, ∀ c ∈ q.2, ev q.1 c = true := by
  intro l
  induction l with
  | nil => intro _ q hq; cases hq
  | cons a t ih =>
    intro h q hq c hc
    obtain ⟨b, k⟩ := a
    obtain ⟨h1, h2⟩ := bif_t (show (bif bx3 (ev b) k then bx2 ev t else false) = true from h)
    rcases List.mem_cons.mp hq with z | z
    · subst z; exact bx3_ok h1 c hc
    · exact ih h2 q z c hc
theorem bx1_ok {ev : aI → aI → aI → Bool} : ∀ {l : bxT}, bx1 ev l = true → ∀ p ∈ l, ∀ q ∈ p.2, ∀ c ∈ q.2, ev p.1 q.1 c = true := by
  intro l
  induction l with
  | nil => intro _ p hp; cases hp
  | cons a t ih =>
    intro h p hp q hq c hc
    obtain ⟨b, k⟩ := a
    obtain ⟨h1, h2⟩ := bif_t (show (bif bx2 (ev b) k then bx1 ev t else false) = true from h)
    rcases List.mem_cons.mp hp with z | z
    · subst z; exact bx2_ok h1 q hq c hc
    · exact ih h2 p z q hq c hc
def wfA (a : aI) : Bool := match a with
  | .inl _ => true
  | .inr q => decide (q.1 ≤ q.2)
def loW (a : aI) : Int := match a with
  | .inl z => z
  | .inr q => q.1
def hiW (a : aI) : Int := match a with
  | .inl z => z
  | .inr q => q.2
def cov : List aI → Int → Bool
  | [], lo => decide (lo = 2147483648)
  | a :: t, lo => wfA a && (decide (loW a = lo) && cov t (hiW a + 1))
theorem cov_ok {x : Int32} : ∀ {l : List aI} {lo : Int}, cov l lo = true → lo ≤ x.toInt → ∃ a ∈ l, gI a x := by
  intro l
  induction l with
  | nil =>
    intro lo h hx
    have h : lo = 2147483648 := of_decide_eq_true h
    have := (t32 x).2
    omega
  | cons a t ih =>
    intro lo h hx
    replace h : (wfA a && (decide (loW a = lo) && cov t (hiW a + 1))) = true := h
    rw [Bool.and_eq_true, Bool.and_eq_true, decide_eq_true_eq] at h
    obtain ⟨h1, h2, h3⟩ := h
    by_cases hh : x.toInt ≤ hiW a
    · refine ⟨a, List.mem_cons_self, ?_⟩
      cases a with
      | inl z =>
        have e1 : z = lo := h2
        have e2 : x.toInt ≤ z := hh
        show x.toInt = z
        omega
      | inr q =>
        have e0 : q.1 ≤ q.2 := of_decide_eq_true h1
        have e1 : q.1 = lo := h2
        have e2 : x.toInt ≤ q.2 := hh
        exact ⟨fun _ => ⟨by omega, e2⟩, fun z => absurd z (by omega)⟩
    · obtain ⟨b, q1, q2⟩ := ih h3 (by omega)
      exact ⟨b, List.mem_cons_of_mem _ q1, q2⟩
def covB (l : bxT) : Bool := cov (l.map (fun p => p.1)) (-2147483648) && l.all (fun p => cov (p.2.map (fun q => q.1)) (-2147483648) && p.2.all (fun q => cov q.2 (-2147483648)))
theorem bx_ok {ev : aI → aI → aI → Bool} {l : bxT} (hc : covB l = true) (he : bx1 ev l = true) (x y z : Int32) : ∃ a b c, gI a x ∧ gI b y ∧ gI c z ∧ ev a b c = true := by
  unfold covB at hc
  rw [Bool.and_eq_true] at hc
  obtain ⟨a, m1, m2⟩ := cov_ok hc.1 (t32 x).1
  obtain ⟨p, hp, rfl⟩ := List.mem_map.mp m1
  have h2 := List.all_eq_true.mp hc.2 p hp
  rw [Bool.and_eq_true] at h2
  obtain ⟨b, k1, k2⟩ := cov_ok h2.1 (t32 y).1
  obtain ⟨q, hq, rfl⟩ := List.mem_map.mp k1
  have h3 := List.all_eq_true.mp h2.2 q hq
  obtain ⟨c, j1, j2⟩ := cov_ok h3 (t32 z).1
  exact ⟨p.1, q.1, c, m2, k2, j2, bx1_ok he p hp q hq c j1⟩
theorem and31 (x : Int32) : ∃ k : Nat, k < 32 ∧ (x &&& 31).toInt = (k : Int) := by
  have h : (x &&& 31).toBitVec.toNat ≤ 31 := by
    rw [Int32.toBitVec_and, BitVec.toNat_and]
    exact Nat.le_trans Nat.and_le_right (by decide)
  refine ⟨_, Nat.lt_succ_of_le h, ?_⟩
  show (x &&& 31).toBitVec.toInt = _
  rw [BitVec.toInt_eq_toNat_cond, if_pos (by omega)]
/-! steps of a body, one by one -/
section ST
variable {lay : Nat → Nat × Nat} {fL : Nat → Option (Nat × Nat × Bool)} {cL : Nat → Option Value} {kL : Nat → Option (Nat × mT × Nat)} {cC : Nat → Option Nat} {kI : Nat → Option (Nat × mT × Nat)} {ow nL : Nat} {ret : Option FieldType} {sc : Bool} {L : Nat} {axs : List aI} {callN : Nat → acal} {callA : acalA} {code : List (Nat × Instr)} {F n ss pc n1 ss1 pc1 : Nat} {lv lv1 : List (Nat × aV)} {st st1 : List aV} {T T1 : aT} {md : mT} {na : Nat}
theorem arunA_N {f : aF} (ho : aopA lay fL cL kL cC kI ow nL sc L axs code n pc = some (.inl f)) (hf : f pc lv st T = some (pc1, lv1, st1, T1)) : arunA lay fL cL kL cC kI ow nL ret sc L axs callN callA code (F + 1) n ss pc lv st T = arunA lay fL cL kL cC kI ow nL ret sc L axs callN callA code F n ss pc1 lv1 st1 T1 := by
  show adspA finA lay ret sc callN callA (arunA lay fL cL kL cC kI ow nL ret sc L axs callN callA code F) (aopA lay fL cL kL cC kI ow nL sc L axs code n pc) n ss pc lv st T = _
  rw [ho]
  show (match (generalizing := false) f pc lv st T with | some (pc1, lv1, st1, T1) => arunA lay fL cL kL cC kI ow nL ret sc L axs callN callA code F n ss pc1 lv1 st1 T1 | none => none) = _
  rw [hf]
theorem arunA_A {f : aFA} (ho : aopA lay fL cL kL cC kI ow nL sc L axs code n pc = some (.inr (.inl f))) (hf : f n ss pc st T = some (n1, ss1, pc1, st1, T1)) : arunA lay fL cL kL cC kI ow nL ret sc L axs callN callA code (F + 1) n ss pc lv st T = arunA lay fL cL kL cC kI ow nL ret sc L axs callN callA code F n1 ss1 pc1 lv st1 T1 := by
  show adspA finA lay ret sc callN callA (arunA lay fL cL kL cC kI ow nL ret sc L axs callN callA code F) (aopA lay fL cL kL cC kI ow nL sc L axs code n pc) n ss pc lv st T = _
  rw [ho]
  show (match (generalizing := false) f n ss pc st T with | some (n1, ss1, pc1, st1, T1) => arunA lay fL cL kL cC kI ow nL ret sc L axs callN callA code F n1 ss1 pc1 lv st1 T1 | none => none) = _
  rw [hf]
theorem arunA_I {av r : List aV} (ho : aopA lay fL cL kL cC kI ow nL sc L axs code n pc = some (.inr (.inr (.inl (5, md, na))))) (hs : spl (Nat.succ na) [] st = some (av, r)) (hc : acO (layN lay n) 0 md.2.2.2.2.1 av r = true) (he : callA md av T n ss = some (none, T1, n1, ss1)) : arunA lay fL cL kL cC kI ow nL ret sc L axs callN callA code (F + 1) n ss pc lv st T = arunA lay fL cL kL cC kI ow nL ret sc L axs callN callA code F n1 ss1 (pc + 3) lv r T1 := by
  show adspA finA lay ret sc callN callA (arunA lay fL cL kL cC kI ow nL ret sc L axs callN callA code F) (aopA lay fL cL kL cC kI ow nL sc L axs code n pc) n ss pc lv st T = _
  rw [ho]
  show (match (generalizing := false) spl (Nat.succ na) [] st with | some (av, r) => (bif acO (layN lay n) 0 md.2.2.2.2.1 av r then (match (generalizing := false) callA md av T n ss with | some (none, T1, n1, ss1) => frcN (Nat.add pc 3) (fun pc => arunA lay fL cL kL cC kI ow nL ret sc L axs callN callA code F n1 ss1 pc lv r T1) | _ => none) else none) | none => none) = _
  rw [hs]
  dsimp only
  rw [hc, he]
  show frcN (Nat.add pc 3) (fun pc => arunA lay fL cL kL cC kI ow nL ret sc L axs callN callA code F n1 ss1 pc lv r T1) = _
  exact frcN_eq
theorem new_ok {ci : Nat} (h1 : layIs lay n 0 ci = true) (h2 : Nat.blt n 1900 = true) (h3 : emp T n = true) : (bif layIs lay n 0 ci && (Nat.blt n 1900 && emp T n) then nxA (Nat.succ n) (Nat.add ss (nT ci)) (Nat.add pc 3) (.inr (.inr (some n)) :: st) T else none) = some (n + 1, ss + nT ci, pc + 3, .inr (.inr (some n)) :: st, T) := by
  rw [h1, h2, h3]
  exact nxA_eq
end ST
def FU : Nat := 60000
def DP : Nat := 20
def lvB : List (Nat × aV) := [(3, .inl (.inl (.ofNat 0))), (2, .inr (.inr (some 904))), (1, .inr (.inr (some 0))), (0, .inr (.inr (some SCR)))]
theorem law_pre (h1 : aevA layF FU DP m_rs_init [.inr (.inr (some 0))] (eT 10) 1 (0 + nT 0) = some (none, sT1, 904, 40680)) (h2 : aevA layF FU DP m_mo_init [.inr (.inr (some 904))] sT1 905 (40680 + nT 12) = some (none, sT2, 996, 142878)) (G L : Nat) (axs : List aI) : alaw layF FU DP L axs (G + 10) 0 0 0 [(0, .inr (.inr (some SCR)))] [] (eT 10) = alaw layF FU DP L axs G 996 142878 18 lvB [] sT2 := by
  refine (arunA_A (F := G + 9) rfl (new_ok (by decide +kernel) (by decide +kernel) (by decide +kernel))).trans ?_
  refine (arunA_N (F := G + 8) rfl rfl).trans ?_
  refine (arunA_I (F := G + 7) rfl rfl (by decide +kernel) h1).trans ?_
  refine (arunA_N (F := G + 6) rfl rfl).trans ?_
  refine (arunA_A (F := G + 5) rfl (new_ok (by decide +kernel) (by decide +kernel) (by decide +kernel))).trans ?_
  refine (arunA_N (F := G + 4) rfl rfl).trans ?_
  refine (arunA_I (F := G + 3) rfl rfl (by decide +kernel) h2).trans ?_
  refine (arunA_N (F := G + 2) rfl rfl).trans ?_
  refine (arunA_N (F := G + 1) rfl rfl).trans ?_
  refine (arunA_N (F := G) rfl rfl).trans ?_
  rfl
/-- the law has answered 1, and no cell is new -/
noncomputable def isT (o : Option (Option aV × aT × Nat × Nat)) : Bool := match o with
  | some (some (.inl (.inl (.ofNat m))), _, n, ss) => bif Nat.beq m 1 then (bif Nat.beq n 996 then Nat.beq ss 142878 else false) else false
  | _ => false
theorem isT_ok {o : Option (Option aV × aT × Nat × Nat)} (h : isT o = true) : ∃ T, o = some (some (.inl (.inl (.ofNat 1))), T, 996, 142878) := by
  unfold isT at h
  split at h
  · obtain ⟨h1, h⟩ := bif_t h
    obtain ⟨h2, h3⟩ := bif_t h
    rw [Nat.eq_of_beq_eq_true h1, Nat.eq_of_beq_eq_true h2, Nat.eq_of_beq_eq_true h3]
    exact ⟨_, rfl⟩
  · cases h
noncomputable def ev4 (op : Nat) (a b c : aI) : Bool := isT (alaw layF FU DP 4 [.inr (.ofNat (Nat.succ op), .ofNat op), a, b, c] 59990 996 142878 18 lvB [] sT2)
noncomputable def ev0 (L : Nat) : Bool := isT (alaw layF FU DP L [] 59990 996 142878 18 lvB [] sT2)
theorem eT_rd : ∀ (n k : Nat), rdT n (eT n) k = [] := by
  intro n
  induction n with
  | zero => intro k; rfl
  | succ n ih =>
    intro k
    show (bif Nat.beq (k % 2) 0 then rdT n (eT n) (k / 2) else rdT n (eT n) (k / 2)) = []
    rw [ih]
    cases Nat.beq (k % 2) 0 <;> rfl
def S00 : sS := (fun _ _ => 0, fun _ _ => 0, fun _ _ => none)
theorem eT_gS : gS (eT 10) S00 := by
  refine ⟨fun k _ => by rw [eT_rd]; exact List.Pairwise.nil, fun k j => ?_⟩
  have e : lookT (eT 10) k j = none := by
    unfold lookT
    rw [eT_rd]
    cases Nat.blt k 1024 <;> rfl
  rw [e]
  exact ⟨rfl, rfl, rfl⟩
theorem bx1_app {ev : aI → aI → aI → Bool} : ∀ {l m : bxT}, bx1 ev l = true → bx1 ev m = true → bx1 ev (l ++ m) = true := by
  intro l
  induction l with
  | nil => intro m _ h; exact h
  | cons a t ih =>
    intro m h1 h2
    obtain ⟨b, k⟩ := a
    obtain ⟨q1, q2⟩ := bif_t (show (bif bx2 (ev b) k then bx1 ev t else false) = true from h1)
    show (bif bx2 (ev b) k then bx1 ev (t ++ m) else false) = true
    rw [q1, ih q2 h2]
    rfl
