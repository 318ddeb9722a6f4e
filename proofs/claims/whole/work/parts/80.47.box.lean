/-! steps of a body, one by one -/
section ST
variable {lay : Nat → Nat × Nat} {fL : Nat → Option (Nat × Nat × Bool)} {cL : Nat → Option Value} {kL : Nat → Option (Nat × mT × Nat)} {cC : Nat → Option Nat} {kI : Nat → Option (Nat × mT × Nat)} {ow nL : Nat} {ret : Option FieldType} {sc : Bool} {L : Nat} {axs : List aI} {callN : Nat → acal} {callA : acalA} {code : List (Nat × Instr)} {F n ss pc n1 ss1 pc1 : Nat} {lv lv1 : List (Nat × aV)} {st st1 : List aV} {T T1 : aT} {md : mT} {na : Nat}
end ST
def FU : Nat := 60000
def DP : Nat := 20
theorem eT_rd : ∀ (n k : Nat), rdT n (eT n) k = [] := by
  intro n
  induction n with
  | zero => intro k; rfl
  | succ n ih =>
    intro k
    show (bif Nat.beq (k % 2) 0 then rdT n (eT n) (k / 2) else rdT n (eT n) (k / 2)) = []
    rw [ih]
    cases Nat.beq (k % 2) 0 <;> rfl
def S00 : sS := (fun _ _ => 0, fun _ _ => 0, fun _ _ => none)
theorem eT_gS : gS (eT 10) S00 := by
  refine ⟨fun k _ => by rw [eT_rd]; exact List.Pairwise.nil, fun k j => ?_⟩
  have e : lookT (eT 10) k j = none := by
    unfold lookT
    rw [eT_rd]
    cases Nat.blt k 1024 <;> rfl
  rw [e]
  exact ⟨rfl, rfl, rfl⟩

