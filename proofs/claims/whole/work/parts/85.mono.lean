section
/-! MORE FUEL: what a run answers, it answers with more fuel, and more depth, too -/
def calLe (c1 c2 : cal) : Prop := ∀ q av S r, c1 q av S = some r → c2 q av S = some r
theorem run_mono {lay : Nat → Nat × Nat} {fL : Nat → Option (Nat × Nat × Bool)} {cL : Nat → Option Value} {kL : Nat → Option (Nat × mT × Nat)} {nL : Nat} {ret : Option FieldType} {code : List (Nat × Instr)} {c1 c2 : cal} (hc : calLe c1 c2) : ∀ (F F2 : Nat), F ≤ F2 → ∀ pc lv st S r, run lay fL cL kL nL ret c1 code F pc lv st S = some r → run lay fL cL kL nL ret c2 code F2 pc lv st S = some r := by sorry
theorem evd_mono {lay : Nat → Nat × Nat} {F F2 : Nat} (hF : F ≤ F2) : ∀ (d d2 : Nat), d ≤ d2 → calLe (evd lay F d) (evd lay F2 d2) := by sorry
def calALe (c1 c2 : calA) : Prop := ∀ q av S n ss r, c1 q av S n ss = some r → c2 q av S n ss = some r
theorem runA_mono {lay : Nat → Nat × Nat} {fL : Nat → Option (Nat × Nat × Bool)} {cL : Nat → Option Value} {kL : Nat → Option (Nat × mT × Nat)} {cC : Nat → Option Nat} {kI : Nat → Option (Nat × mT × Nat)} {ow nL : Nat} {ret : Option FieldType} {sc : Bool} {L : Nat} {xs : Nat → Int32} {code : List (Nat × Instr)} {c1 c2 : Nat → cal} {a1 a2 : calA} (hc : ∀ n, calLe (c1 n) (c2 n)) (ha : calALe a1 a2) : ∀ (F F2 : Nat), F ≤ F2 → ∀ n ss pc lv st S r, runA lay fL cL kL cC kI ow nL ret sc L xs c1 a1 code F n ss pc lv st S = some r → runA lay fL cL kL cC kI ow nL ret sc L xs c2 a2 code F2 n ss pc lv st S = some r := by sorry
theorem evA_mono {lay : Nat → Nat × Nat} {F F2 : Nat} (hF : F ≤ F2) : ∀ (d d2 : Nat), d ≤ d2 → calALe (evA lay F d) (evA lay F2 d2) := by sorry
end
