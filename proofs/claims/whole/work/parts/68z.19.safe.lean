/-! SAFETY of methods: printed by wip/safe (vc.py, decl.py) -/
theorem fitsB {v : Int32} (h : -128 ≤ v.toInt ∧ v.toInt ≤ 127) : Jvm.fits .byte (.int v) = true := by
  show (decide (-128 ≤ v) && decide (v ≤ 127)) = true
  rw [Bool.and_eq_true, decide_eq_true_eq, decide_eq_true_eq, Int32.le_iff_toInt_le, Int32.le_iff_toInt_le]
  exact h
theorem KWM_FR {l : List rec} {S T : sS} (h : FR l S T) (e : kdis l [(911, 912)] = true) (hK : KWM S) : KWM T := fun k a b c => by
  rw [(h.smk e).xj 911 rfl]
  exact hK k a b c
section
variable {lay : Nat → Nat × Nat} {S : sS}
theorem acpB {x y z : Int} {a b A B : Nat} (ha : lay a = (3, A)) (hb : lay b = (3, B)) (hx : 0 ≤ x) (hy : 0 ≤ y) (hz : 0 ≤ z) (h1 : x + z ≤ A) (h2 : y + z ≤ B) (hA : A ≤ 10000) (hB : B ≤ 10000) (hf : ∀ j, -128 ≤ Xi S a j ∧ Xi S a j ≤ 127) : acp lay S a (Int32.ofInt x) b (Int32.ofInt y) (Int32.ofInt z) = some (cpI S a b x.toNat y.toNat z.toNat) := by
  unfold acp
  rw [ix_i (x := x) ⟨by omega, by omega⟩, ix_i (x := y) ⟨by omega, by omega⟩, ix_i (x := z) ⟨by omega, by omega⟩, ha, hb]
  have c := acp_c hx hy hz h1 h2 hA hB
  show (bif ((decide (¬ Int32.ofInt x < 0) && (decide (¬ Int32.ofInt y < 0) && decide (¬ Int32.ofInt z < 0))) && (Nat.ble (x.toNat + z.toNat) A && Nat.ble (y.toNat + z.toNat) B)) then _ else none) = _
  rw [c]
  have f : (List.range z.toNat).all (fun i => Jvm.fits .byte (.int (S.1 a (x.toNat + i)))) = true := List.all_eq_true.mpr (fun i _ => fitsB (hf (x.toNat + i)))
  show (bif true && (List.range z.toNat).all (fun i => Jvm.fits .byte (.int (S.1 a (x.toNat + i)))) then _ else none) = _
  rw [f]
  rfl
end
theorem rdt_0 {S : sS} (h23 : 0 ≤ Xi S 904 23) (h : Xi S 904 117 = 0 ∧ Xi S 904 125 = 0 ∧ Xi S 904 130 = 0) (d : ∀ a : Nat, (a : Int) < Xi S 904 23 → Xi S 924 a = 0) : RDT S :=
  ⟨fun r hr => absurd hr (by omega), fun a ha hp => absurd (d a ha) (by omega), ⟨⟨by omega, by omega⟩, fun a ha hp => absurd (d a ha) (by omega), fun r hr => absurd hr (by omega)⟩⟩

