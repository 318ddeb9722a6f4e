/-! SAFETY of methods: printed by wip/safe (vc.py, decl.py) -/
/-! SAFETY of the reference: what asking leaves for telling -/
def D0 (T : sS) : Prop := 0 ≤ Xi T 904 60
def D1 (T : sS) : Prop := Xi T 904 55 ≤ 19 ∧ rnR T 0 11 ≠ -1
def D2 (T : sS) : Prop := Xi T 904 23 ≤ 23 ∧ Xi T 951 1 ≤ 3 ∧ rnR T 0 0 ≠ -1 ∧ (1 ≤ Xi T 904 94 ∧ Xi T 904 94 ≤ 6) ∧ TQA T True False (Xi T 904 117) (Xi T 904 94)
def D7 (T : sS) : Prop := Xi T 904 47 ≤ 7 ∧ rnR T 1 8 ≠ -1 ∧ Xi T 951 0 = 1
def D8 (T : sS) : Prop := Xi T 951 1 ≤ 3 ∧ (r2R T 0 0 1 ≠ -1 ∨ r2R T 0 2 3 ≠ -1)
def D9 (T : sS) : Prop := rnR T 0 7 ≠ -1 ∧ (rnR T 1 4 ≠ -1 ∨ rnR T 1 0 ≠ -1) ∧ OKT (Xi T 973 (Xi T 904 117).toNat) (Xi T 974 (Xi T 904 117).toNat)
def D10 (T : sS) : Prop := (Xi T 904 78 = -2 → Xi T 904 18 + Xi T 904 72 ≤ 8) ∧ (Xi T 904 78 ≠ -2 → Xi T 904 16 + Xi T 904 72 ≤ 16) ∧ (0 ≤ Xi T 904 78 → rnR T (Xi T 904 78) 0 ≠ -1) ∧ ∀ i : Int, 0 ≤ i → i < Xi T 904 72 → Xi T 951 (Xi T 904 71 + i).toNat ≤ 3
def D11 (T : sS) : Prop := Xi T 904 49 + Xi T 904 72 ≤ 12 ∧ (0 ≤ Xi T 904 78 → rnR T (Xi T 904 78) 0 ≠ -1) ∧ ∀ i : Int, 0 ≤ i → i < Xi T 904 72 → Xi T 951 (Xi T 904 71 + i).toNat ≤ 3
def D12 (T : sS) : Prop := ONA T ∧ (Xi T 904 110 < Xi T 904 16 ∧ ∀ i : Nat, (i : Int) < Xi T 904 112 → ADM T (Xi T 967 i)) ∧ (0 < Xi T 904 73 → rnR T (Xi T 904 74) 4 ≠ -1)
def D13 (T : sS) : Prop := ONA T ∧ (0 < Xi T 904 73 → rnR T (Xi T 904 74) 4 ≠ -1)
def D14 (T : sS) : Prop := (rnR T (Xi T 904 71) 4 = -1 → Xi T 904 19 < 24 ∧ Xi T 951 (Xi T 904 71).toNat ≤ 3) ∧ rnR T (Xi T 904 78) 12 ≠ -1 ∧ rnR T (Xi T 904 74) 4 ≠ -1
def D15 (T : sS) : Prop := (Xi T 904 142 = 1 → rnR T (Xi T 904 71) 0 ≠ -1 ∧ ADM T (Xi T 967 0)) ∧ (Xi T 904 142 = 2 → 1 < r2R T (Xi T 904 71) 2 3 ∧ cvR T (r2R T (Xi T 904 71) 2 3) (Xi T 904 30).toNat + (Xi T 904 69 - Xi T 904 78) ≤ 8 ∧ ∀ r : Int, Xi T 904 78 ≤ r → r < Xi T 904 69 → Xi T 951 r.toNat ≤ 3) ∧ (Xi T 904 142 = 3 → ONA T ∧ Xi T 904 110 < Xi T 904 16 ∧ ∀ i : Nat, (i : Int) < Xi T 904 112 → ADM T (Xi T 967 i)) ∧ (Xi T 904 142 ≠ 1 → Xi T 904 142 ≠ 2 → Xi T 904 142 ≠ 3 → AQ4 T)
def D17 (T : sS) : Prop := rnR T 0 0 ≠ -1 ∧ r2R T 1 2 3 ≠ -1 ∧ (rnR T 2 7 = -1 → Xi T 904 32 ≤ 11 ∧ Xi T 951 2 ≤ 3)
def D18 (T : sS) : Prop := rnR T 0 0 ≠ -1 ∧ Xi T 904 23 ≤ 22 ∧ Xi T 951 1 ≤ 3 ∧ Xi T 951 2 ≤ 3
def D19 (T : sS) : Prop := Xi T 904 41 ≤ 5 ∧ Xi T 951 0 ≤ 3 ∧ r2R T 1 0 1 ≠ -1 ∧ r2R T 2 0 1 ≠ -1
def DOK (T : sS) : Prop := (Xi T 904 70 = 0 → D0 T) ∧ (Xi T 904 70 = 1 → D1 T) ∧ (Xi T 904 70 = 2 → D2 T) ∧ (Xi T 904 70 = 7 → D7 T) ∧ (Xi T 904 70 = 8 → D8 T) ∧ (Xi T 904 70 = 9 → D9 T) ∧ (Xi T 904 70 = 10 → D10 T) ∧ (Xi T 904 70 = 11 → D11 T) ∧ (Xi T 904 70 = 12 → D12 T) ∧ (Xi T 904 70 = 13 → D13 T) ∧ (Xi T 904 70 = 14 → D14 T) ∧ (15 ≤ Xi T 904 70 ∧ Xi T 904 70 ≤ 16 → D15 T) ∧ (Xi T 904 70 = 17 → D17 T) ∧ (Xi T 904 70 = 18 → D18 T) ∧ (Xi T 904 70 = 19 → D19 T)
theorem dok_0 {T : sS} (e : Xi T 904 70 = 0) (h : D0 T) : DOK T := ⟨fun _ => h, fun q => absurd q (by omega), fun q => absurd q (by omega), fun q => absurd q (by omega), fun q => absurd q (by omega), fun q => absurd q (by omega), fun q => absurd q (by omega), fun q => absurd q (by omega), fun q => absurd q (by omega), fun q => absurd q (by omega), fun q => absurd q (by omega), fun q => absurd q (by omega), fun q => absurd q (by omega), fun q => absurd q (by omega), fun q => absurd q (by omega)⟩
theorem dok_1 {T : sS} (e : Xi T 904 70 = 1) (h : D1 T) : DOK T := ⟨fun q => absurd q (by omega), fun _ => h, fun q => absurd q (by omega), fun q => absurd q (by omega), fun q => absurd q (by omega), fun q => absurd q (by omega), fun q => absurd q (by omega), fun q => absurd q (by omega), fun q => absurd q (by omega), fun q => absurd q (by omega), fun q => absurd q (by omega), fun q => absurd q (by omega), fun q => absurd q (by omega), fun q => absurd q (by omega), fun q => absurd q (by omega)⟩
theorem dok_2 {T : sS} (e : Xi T 904 70 = 2) (h : D2 T) : DOK T := ⟨fun q => absurd q (by omega), fun q => absurd q (by omega), fun _ => h, fun q => absurd q (by omega), fun q => absurd q (by omega), fun q => absurd q (by omega), fun q => absurd q (by omega), fun q => absurd q (by omega), fun q => absurd q (by omega), fun q => absurd q (by omega), fun q => absurd q (by omega), fun q => absurd q (by omega), fun q => absurd q (by omega), fun q => absurd q (by omega), fun q => absurd q (by omega)⟩
theorem dok_7 {T : sS} (e : Xi T 904 70 = 7) (h : D7 T) : DOK T := ⟨fun q => absurd q (by omega), fun q => absurd q (by omega), fun q => absurd q (by omega), fun _ => h, fun q => absurd q (by omega), fun q => absurd q (by omega), fun q => absurd q (by omega), fun q => absurd q (by omega), fun q => absurd q (by omega), fun q => absurd q (by omega), fun q => absurd q (by omega), fun q => absurd q (by omega), fun q => absurd q (by omega), fun q => absurd q (by omega), fun q => absurd q (by omega)⟩
theorem dok_8 {T : sS} (e : Xi T 904 70 = 8) (h : D8 T) : DOK T := ⟨fun q => absurd q (by omega), fun q => absurd q (by omega), fun q => absurd q (by omega), fun q => absurd q (by omega), fun _ => h, fun q => absurd q (by omega), fun q => absurd q (by omega), fun q => absurd q (by omega), fun q => absurd q (by omega), fun q => absurd q (by omega), fun q => absurd q (by omega), fun q => absurd q (by omega), fun q => absurd q (by omega), fun q => absurd q (by omega), fun q => absurd q (by omega)⟩
theorem dok_9 {T : sS} (e : Xi T 904 70 = 9) (h : D9 T) : DOK T := ⟨fun q => absurd q (by omega), fun q => absurd q (by omega), fun q => absurd q (by omega), fun q => absurd q (by omega), fun q => absurd q (by omega), fun _ => h, fun q => absurd q (by omega), fun q => absurd q (by omega), fun q => absurd q (by omega), fun q => absurd q (by omega), fun q => absurd q (by omega), fun q => absurd q (by omega), fun q => absurd q (by omega), fun q => absurd q (by omega), fun q => absurd q (by omega)⟩
theorem dok_10 {T : sS} (e : Xi T 904 70 = 10) (h : D10 T) : DOK T := ⟨fun q => absurd q (by omega), fun q => absurd q (by omega), fun q => absurd q (by omega), fun q => absurd q (by omega), fun q => absurd q (by omega), fun q => absurd q (by omega), fun _ => h, fun q => absurd q (by omega), fun q => absurd q (by omega), fun q => absurd q (by omega), fun q => absurd q (by omega), fun q => absurd q (by omega), fun q => absurd q (by omega), fun q => absurd q (by omega), fun q => absurd q (by omega)⟩
theorem dok_11 {T : sS} (e : Xi T 904 70 = 11) (h : D11 T) : DOK T := ⟨fun q => absurd q (by omega), fun q => absurd q (by omega), fun q => absurd q (by omega), fun q => absurd q (by omega), fun q => absurd q (by omega), fun q => absurd q (by omega), fun q => absurd q (by omega), fun _ => h, fun q => absurd q (by omega), fun q => absurd q (by omega), fun q => absurd q (by omega), fun q => absurd q (by omega), fun q => absurd q (by omega), fun q => absurd q (by omega), fun q => absurd q (by omega)⟩
theorem dok_12 {T : sS} (e : Xi T 904 70 = 12) (h : D12 T) : DOK T := ⟨fun q => absurd q (by omega), fun q => absurd q (by omega), fun q => absurd q (by omega), fun q => absurd q (by omega), fun q => absurd q (by omega), fun q => absurd q (by omega), fun q => absurd q (by omega), fun q => absurd q (by omega), fun _ => h, fun q => absurd q (by omega), fun q => absurd q (by omega), fun q => absurd q (by omega), fun q => absurd q (by omega), fun q => absurd q (by omega), fun q => absurd q (by omega)⟩
theorem dok_13 {T : sS} (e : Xi T 904 70 = 13) (h : D13 T) : DOK T := ⟨fun q => absurd q (by omega), fun q => absurd q (by omega), fun q => absurd q (by omega), fun q => absurd q (by omega), fun q => absurd q (by omega), fun q => absurd q (by omega), fun q => absurd q (by omega), fun q => absurd q (by omega), fun q => absurd q (by omega), fun _ => h, fun q => absurd q (by omega), fun q => absurd q (by omega), fun q => absurd q (by omega), fun q => absurd q (by omega), fun q => absurd q (by omega)⟩
theorem dok_14 {T : sS} (e : Xi T 904 70 = 14) (h : D14 T) : DOK T := ⟨fun q => absurd q (by omega), fun q => absurd q (by omega), fun q => absurd q (by omega), fun q => absurd q (by omega), fun q => absurd q (by omega), fun q => absurd q (by omega), fun q => absurd q (by omega), fun q => absurd q (by omega), fun q => absurd q (by omega), fun q => absurd q (by omega), fun _ => h, fun q => absurd q (by omega), fun q => absurd q (by omega), fun q => absurd q (by omega), fun q => absurd q (by omega)⟩
theorem dok_15 {T : sS} (e : 15 ≤ Xi T 904 70 ∧ Xi T 904 70 ≤ 16) (h : D15 T) : DOK T := ⟨fun q => absurd q (by omega), fun q => absurd q (by omega), fun q => absurd q (by omega), fun q => absurd q (by omega), fun q => absurd q (by omega), fun q => absurd q (by omega), fun q => absurd q (by omega), fun q => absurd q (by omega), fun q => absurd q (by omega), fun q => absurd q (by omega), fun q => absurd q (by omega), fun _ => h, fun q => absurd q (by omega), fun q => absurd q (by omega), fun q => absurd q (by omega)⟩
theorem dok_17 {T : sS} (e : Xi T 904 70 = 17) (h : D17 T) : DOK T := ⟨fun q => absurd q (by omega), fun q => absurd q (by omega), fun q => absurd q (by omega), fun q => absurd q (by omega), fun q => absurd q (by omega), fun q => absurd q (by omega), fun q => absurd q (by omega), fun q => absurd q (by omega), fun q => absurd q (by omega), fun q => absurd q (by omega), fun q => absurd q (by omega), fun q => absurd q (by omega), fun _ => h, fun q => absurd q (by omega), fun q => absurd q (by omega)⟩
theorem dok_18 {T : sS} (e : Xi T 904 70 = 18) (h : D18 T) : DOK T := ⟨fun q => absurd q (by omega), fun q => absurd q (by omega), fun q => absurd q (by omega), fun q => absurd q (by omega), fun q => absurd q (by omega), fun q => absurd q (by omega), fun q => absurd q (by omega), fun q => absurd q (by omega), fun q => absurd q (by omega), fun q => absurd q (by omega), fun q => absurd q (by omega), fun q => absurd q (by omega), fun q => absurd q (by omega), fun _ => h, fun q => absurd q (by omega)⟩
theorem dok_19 {T : sS} (e : Xi T 904 70 = 19) (h : D19 T) : DOK T := ⟨fun q => absurd q (by omega), fun q => absurd q (by omega), fun q => absurd q (by omega), fun q => absurd q (by omega), fun q => absurd q (by omega), fun q => absurd q (by omega), fun q => absurd q (by omega), fun q => absurd q (by omega), fun q => absurd q (by omega), fun q => absurd q (by omega), fun q => absurd q (by omega), fun q => absurd q (by omega), fun q => absurd q (by omega), fun q => absurd q (by omega), fun _ => h⟩
theorem dok_3 {T : sS} (e : (3 ≤ Xi T 904 70 ∧ Xi T 904 70 ≤ 6) ∨ Xi T 904 70 = 20) : DOK T := ⟨fun q => absurd q (by omega), fun q => absurd q (by omega), fun q => absurd q (by omega), fun q => absurd q (by omega), fun q => absurd q (by omega), fun q => absurd q (by omega), fun q => absurd q (by omega), fun q => absurd q (by omega), fun q => absurd q (by omega), fun q => absurd q (by omega), fun q => absurd q (by omega), fun q => absurd q (by omega), fun q => absurd q (by omega), fun q => absurd q (by omega), fun q => absurd q (by omega)⟩
def AP9 (S : sS) (n : Nat) : Prop := (2 ≤ Xi S 904 70 → Xi S 904 70 ≤ 6 → TVA S n (Xi S 904 94)) ∧ (3 ≤ Xi S 904 70 → Xi S 904 70 ≤ 6 → PVA S n (Xi S 904 98)) ∧ (3 ≤ Xi S 904 70 → Xi S 904 70 ≤ 6 → Xi S 904 94 + Xi S 904 98 ≤ 1666) ∧ (Xi S 904 70 = 11 → -1 ≤ Xi S 904 78) ∧ (Xi S 904 70 = 2 → 1 ≤ Xi S 904 94)
def RDT (S : sS) : Prop := RULM S ∧ DEFM S ∧ TBX S
theorem rdt_keep {S T : sS} (h : RDT S) (hH : HI S) (g : GR T S) (e1 : Xi T 904 117 = Xi S 904 117) (e2 : Xi T 904 125 = Xi S 904 125) (e3 : Xi T 904 130 = Xi S 904 130) (ec : Xi T 904 23 = Xi S 904 23) (e : ∀ k, 978 ≤ k → k ≤ 987 → ∀ j, Xi T k j = Xi S k j) (kt : KQL T S (Xi S 904 117)) (kp : KHL T S (Xi S 904 125)) : RDT T := ⟨rul_keep h.1 h.2.2 hH g e3 e kt kp, def_keep h.2.1 h.2.2 hH g ec kt, tbx_keep h.2.2 hH e1 e2 e3 ec g e kp⟩
theorem RDT_FR {l : List rec} {S T : sS} (hH : HI S) (f : FR l S T) (e : (kdis l kGR && mD l jGR) = true) (e2 : kdis l [(969, 988)] = true) (e3 : mD l [117, 125, 130] = true) (h : RDT S) : RDT T := by
  have q := f.smk e2
  have y23 : Xi T 904 23 = Xi S 904 23 := by
    rw [Bool.and_eq_true] at e
    exact mD_x f e.2 23 (by decide)
  refine rdt_keep h hH (GR_FR f e GR.rf) (mD_x f e3 117 (by decide)) (mD_x f e3 125 (by decide)) (mD_x f e3 130 (by decide)) y23 (fun k a b j => ?_) (fun i _ k a b => ?_) (fun i _ => ⟨q.x 976 rfl i, q.x 977 rfl i⟩)
  · rcases (by omega : k = 978 ∨ k = 979 ∨ k = 980 ∨ k = 981 ∨ k = 982 ∨ k = 983 ∨ k = 984 ∨ k = 985 ∨ k = 986 ∨ k = 987) with h | h | h | h | h | h | h | h | h | h <;> subst h <;> exact q.x _ rfl j
  · rcases (by omega : k = 969 ∨ k = 970 ∨ k = 971 ∨ k = 972 ∨ k = 973 ∨ k = 974 ∨ k = 975) with h | h | h | h | h | h | h <;> subst h <;> exact q.x _ rfl i
theorem r2R_FR {l : List rec} {S T : sS} {r s u : Int} (h : FR l S T) (e : (kdis l kLX && mD l [15]) = true) (e2 : kdis l [(950, 952)] = true) : r2R T r s u = r2R S r s u := by
  unfold r2R
  rw [rnR_FR h e e2, rnR_FR h e e2]
theorem d15_i {l : List rec} {S T : sS} (h : FR l S T) (e : (((kdis l kLX && mD l [15]) && (kdis l [(950, 952)] && mD l [19, 71, 72])) && ((kdis l kAD && mD l [32]) && (kdis l [(918, 919)] && mD l [16, 23, 30, 69, 71, 72, 75, 78]))) = true) (p1 : Xi T 904 142 = 1 → rnR S (Xi S 904 71) 0 ≠ -1 ∧ ADM S (Xi T 967 0)) (p2 : Xi T 904 142 = 2 → 1 < r2R S (Xi S 904 71) 2 3 ∧ cvR S (r2R S (Xi S 904 71) 2 3) (Xi S 904 30).toNat + (Xi S 904 69 - Xi S 904 78) ≤ 8 ∧ ∀ r : Int, Xi S 904 78 ≤ r → r < Xi S 904 69 → Xi S 951 r.toNat ≤ 3) (p3 : Xi T 904 142 = 3 → ONA S ∧ Xi T 904 110 < Xi S 904 16 ∧ ∀ i : Nat, (i : Int) < Xi T 904 112 → ADM S (Xi T 967 i)) (p4 : Xi T 904 142 ≠ 1 → Xi T 904 142 ≠ 2 → Xi T 904 142 ≠ 3 → AQ4 S) : D15 T := by
  have e0 := e
  simp only [Bool.and_eq_true] at e
  obtain ⟨⟨⟨a1, a2⟩, b, c⟩, ⟨d1, d2⟩, f, g⟩ := e
  have a : (kdis l kLX && mD l [15]) = true := by rw [a1, a2]; rfl
  have o : ((kdis l kLX && mD l [15]) && (kdis l [(950, 952)] && mD l [19, 71, 72])) = true := by rw [a1, a2, b, c]; rfl
  have k := h.smk b
  have m := h.smk d1
  have x := fun j hj => mD_x h g j hj
  have ad : ∀ v, ADM S v → ADM T v := fun v t => adm_gr (Int.le_of_eq (x 23 (by decide)).symm) (Int.le_of_eq (mD_x h d2 32 (by decide)).symm) t
  refine ⟨fun q => ?_, fun q => ?_, fun q => ?_, fun q1 q2 q3 => ?_⟩
  · rw [rnR_FR h a b, x 71 (by decide)]
    exact ⟨(p1 q).1, ad _ (p1 q).2⟩
  · rw [r2R_FR h a b, x 71 (by decide), x 30 (by decide), x 69 (by decide), x 78 (by decide), cvR_k _ (fun j _ => m.x 927 rfl j)]
    have t := p2 q
    exact ⟨t.1, t.2.1, fun r u v => by rw [k.x 951 rfl]; exact t.2.2 r u v⟩
  · have t := p3 q
    rw [x 16 (by decide)]
    exact ⟨ona_fw h o t.1, t.2.1, fun i hi => ad _ (t.2.2 i hi)⟩
  · have y : mD l [71, 72, 75, 78] = true := by
      have z := g
      simp only [mD, List.all_cons, Bool.and_eq_true] at z ⊢
      obtain ⟨_, _, _, _, z1, z2, z3, z4, _⟩ := z
      exact ⟨z1, z2, z3, z4, rfl⟩
    exact AQ4_FR h (by rw [a1, a2, b, d1, d2, f, y]; rfl) (p4 q1 q2 q3)
theorem smk_r8 {l : List rec} {S T : sS} (f : FR l S T) (e : kdis l [(978, 988)] = true) (k : Nat) (a : 978 ≤ k) (b : k ≤ 987) (j : Nat) : Xi T k j = Xi S k j := by
  have q := f.smk e
  rcases (by omega : k = 978 ∨ k = 979 ∨ k = 980 ∨ k = 981 ∨ k = 982 ∨ k = 983 ∨ k = 984 ∨ k = 985 ∨ k = 986 ∨ k = 987) with h | h | h | h | h | h | h | h | h | h <;> subst h <;> exact q.x _ rfl _
def md_mo_asked : List rec := [(904, 905, 64, 65), (904, 905, 104, 105), (904, 905, 105, 106), (904, 905, 106, 107), (904, 905, 108, 109), (904, 905, 109, 110), (904, 905, 110, 111), (904, 905, 112, 113), (904, 905, 113, 114), (904, 905, 115, 116), (904, 905, 116, 117), (904, 905, 117, 118), (904, 905, 125, 126), (904, 905, 128, 129), (904, 905, 129, 130), (904, 905, 130, 131), (904, 905, 142, 143), (904, 905, 144, 145), (904, 905, 146, 147), (904, 905, 147, 148), (904, 905, 150, 151), (904, 905, 151, 152), (904, 905, 153, 154), (904, 905, 154, 155), (904, 905, 156, 157), (904, 905, 157, 158), (904, 905, 158, 159), (904, 905, 160, 161), (966, 967, 0, 100000), (967, 968, 0, 100000), (968, 969, 0, 100000), (969, 970, 0, 100000), (970, 971, 0, 100000), (971, 972, 0, 100000), (972, 973, 0, 100000), (973, 974, 0, 100000), (974, 975, 0, 100000), (975, 976, 0, 100000), (976, 977, 0, 100000), (977, 978, 0, 100000), (978, 979, 0, 100000), (979, 980, 0, 100000), (980, 981, 0, 100000), (981, 982, 0, 100000), (982, 983, 0, 100000), (983, 984, 0, 100000), (984, 985, 0, 100000), (985, 986, 0, 100000), (986, 987, 0, 100000), (987, 988, 0, 100000), (988, 989, 0, 100000), (989, 990, 0, 100000), (990, 991, 0, 100000), (991, 992, 0, 100000), (992, 993, 0, 100000), (993, 994, 0, 100000), (994, 995, 0, 100000)]
abbrev Q_mo_asked (S : sS) (n : Nat) (dd : Nat) (first : Int) : pst := fun r S1 => HI S1 ∧ FR md_mo_asked S S1 ∧ (r = none ∧ (Xi S1 904 106 = 0 → DOK S1) ∧ (Xi S1 904 106 = 0 → RDT S1))
set_option maxRecDepth 100000 in
set_option maxHeartbeats 8000000 in
theorem c526_mo_asked {S : sS} (hH : HI S) (n : Nat) (dd : Nat) (first : Int) (hfirst : 0 ≤ first ∧ first ≤ 5001) (hT : TK S n) (hv : RNV S n) (hM : LXM S) (hB : ABV S) (hC : DCM S) (hK : TXK S n) (hX : TXM S) (hq : SNQ S n) (hap : AP9 S n) (h94 : Xi S 904 94 ≤ 1668) (hRD : RDT S) (hPF : PF S) (hdt : Xi S 904 70 = 20 → first ≤ dd ∧ dd < n ∧ Xi S 907 dd = 46) (d : Nat) : ∀  (T1 : sS) (_ : HI T1) (_ : FR md_mo_asked S T1), (Xi T1 904 117 = Xi S 904 117) → (Xi T1 904 60 = Xi S 904 60) → (Xi T1 904 69 = Xi S 904 69) → (Xi T1 904 70 = Xi S 904 70) → (Xi T1 904 71 = Xi S 904 71) → (Xi T1 904 72 = Xi S 904 72) → (Xi T1 904 73 = Xi S 904 73) → (Xi T1 904 74 = Xi S 904 74) → (Xi T1 904 78 = Xi S 904 78) → (Xi T1 904 81 = Xi S 904 81) → (Xi T1 904 94 = Xi S 904 94) → (Xi T1 904 98 = Xi S 904 98) → (NWV T1) → (RDT T1) → (3 ≤ Xi S 904 70 ∧ Xi S 904 70 ≤ 6) → (SNQ T1 n) → Rl lay0 (d + 12) m_mo_asked 526 [(0, .ref 904), (1, iv first)] [] T1 (Q_mo_asked S n dd first) := by
  have hF : FR md_mo_asked S S := FR.rf
  have w1 : 0 ≤ Xi S 904 106 ∧ Xi S 904 106 ≤ 9 := hH.c _ _
  have w2 : 0 ≤ Xi S 904 108 ∧ Xi S 904 108 ≤ 2600 := hH.c _ _
  have w3 : -1 ≤ Xi S 904 115 ∧ Xi S 904 115 ≤ 15 := hH.c _ _
  have w4 : -1 ≤ Xi S 904 116 ∧ Xi S 904 116 ≤ 15 := hH.c _ _
  have w5 : 0 ≤ Xi S 904 117 ∧ Xi S 904 117 ≤ 480 := hH.c _ _
  have w6 : 0 ≤ Xi S 904 23 ∧ Xi S 904 23 ≤ 24 := hH.c _ _
  have w7 : 0 ≤ Xi S 904 41 ∧ Xi S 904 41 ≤ 6 := hH.c _ _
  have w8 : -1 ≤ Xi S 904 60 ∧ Xi S 904 60 ≤ 23 := hH.c _ _
  have w9 : 0 ≤ Xi S 904 69 ∧ Xi S 904 69 ≤ 2600 := hH.c _ _
  have w10 : 0 ≤ Xi S 904 70 ∧ Xi S 904 70 ≤ 20 := hH.c _ _
  have w11 : 0 ≤ Xi S 904 71 ∧ Xi S 904 71 ≤ 2600 := hH.c _ _
  have w12 : 0 ≤ Xi S 904 72 ∧ Xi S 904 72 ≤ 2600 := hH.c _ _
  have w13 : 0 ≤ Xi S 904 73 ∧ Xi S 904 73 ≤ 5 := hH.c _ _
  have w14 : 0 ≤ Xi S 904 74 ∧ Xi S 904 74 ≤ 2600 := hH.c _ _
  have w15 : -2 ≤ Xi S 904 78 ∧ Xi S 904 78 ≤ 5010 := hH.c _ _
  have w16 : 0 ≤ Xi S 904 81 ∧ Xi S 904 81 ≤ 5010 := hH.c _ _
  have w17 : 0 ≤ Xi S 904 94 ∧ Xi S 904 94 ≤ 1700 := hH.c _ _
  have w18 : 0 ≤ Xi S 904 98 ∧ Xi S 904 98 ≤ 1700 := hH.c _ _
  have w19 : 0 ≤ Xi S 951 0 ∧ Xi S 951 0 ≤ 5010 := hH.c _ _
  have w20 : 0 ≤ Xi S 951 1 ∧ Xi S 951 1 ≤ 5010 := hH.c _ _
  have hn5 := hT.1
  have hc69 : 0 ≤ Xi S 904 69 ∧ Xi S 904 69 ≤ 2600 := hH.c _ _
  have hc70 : 0 ≤ Xi S 904 70 ∧ Xi S 904 70 ≤ 20 := hH.c _ _
  have hc23 : 0 ≤ Xi S 904 23 ∧ Xi S 904 23 ≤ 24 := hH.c _ _
  have hrf : ∀ r : Int, 0 ≤ r → r < Xi S 904 69 → Xi S 950 r.toNat + Xi S 951 r.toNat ≤ n ∧ 1 ≤ Xi S 951 r.toNat := fun r a b => hv r.toNat (by omega)
  have hq0 : KQL S S (Xi S 904 117) := KQL.rf
  intro T1 hHT1 hFT1 w21 w22 w23 w24 w25 w26 w27 w28 w29 w30 w31 w32 N526 R526 w33 q526
  have w34 : Xi T1 904 102 = Xi S 904 102 := hFT1.x _ _ rfl
  have w35 : Xi T1 904 103 = Xi S 904 103 := hFT1.x _ _ rfl
  have w36 : Xi T1 904 16 = Xi S 904 16 := hFT1.x _ _ rfl
  have w37 : Xi T1 904 18 = Xi S 904 18 := hFT1.x _ _ rfl
  have w38 : Xi T1 904 19 = Xi S 904 19 := hFT1.x _ _ rfl
  have w39 : Xi T1 904 23 = Xi S 904 23 := hFT1.x _ _ rfl
  have w40 : Xi T1 904 30 = Xi S 904 30 := hFT1.x _ _ rfl
  have w41 : Xi T1 904 41 = Xi S 904 41 := hFT1.x _ _ rfl
  have w42 : Xi T1 904 47 = Xi S 904 47 := hFT1.x _ _ rfl
  have w43 : Xi T1 904 49 = Xi S 904 49 := hFT1.x _ _ rfl
  have w44 : Xi T1 904 55 = Xi S 904 55 := hFT1.x _ _ rfl
  have w45 : Xi T1 904 60 = Xi S 904 60 := hFT1.x _ _ rfl
  have w46 : Xi T1 904 69 = Xi S 904 69 := hFT1.x _ _ rfl
  have w47 : Xi T1 904 70 = Xi S 904 70 := hFT1.x _ _ rfl
  have w48 : Xi T1 904 71 = Xi S 904 71 := hFT1.x _ _ rfl
  have w49 : Xi T1 904 72 = Xi S 904 72 := hFT1.x _ _ rfl
  have w50 : Xi T1 904 73 = Xi S 904 73 := hFT1.x _ _ rfl
  have w51 : Xi T1 904 74 = Xi S 904 74 := hFT1.x _ _ rfl
  have w52 : Xi T1 904 78 = Xi S 904 78 := hFT1.x _ _ rfl
  have w53 : Xi T1 904 81 = Xi S 904 81 := hFT1.x _ _ rfl
  have w54 : Xi T1 904 94 = Xi S 904 94 := hFT1.x _ _ rfl
  have w55 : Xi T1 904 98 = Xi S 904 98 := hFT1.x _ _ rfl
  have w56 : Xi T1 951 0 = Xi S 951 0 := hFT1.x _ _ rfl
  have w57 : Xi T1 951 1 = Xi S 951 1 := hFT1.x _ _ rfl
  have w58 : 0 ≤ Xi T1 904 117 ∧ Xi T1 904 117 ≤ 480 := hHT1.c _ _
  have w59 : -1 ≤ Xi T1 904 60 ∧ Xi T1 904 60 ≤ 23 := hHT1.c _ _
  have w60 : 0 ≤ Xi T1 904 69 ∧ Xi T1 904 69 ≤ 2600 := hHT1.c _ _
  have w61 : 0 ≤ Xi T1 904 70 ∧ Xi T1 904 70 ≤ 20 := hHT1.c _ _
  have w62 : 0 ≤ Xi T1 904 71 ∧ Xi T1 904 71 ≤ 2600 := hHT1.c _ _
  have w63 : 0 ≤ Xi T1 904 72 ∧ Xi T1 904 72 ≤ 2600 := hHT1.c _ _
  have w64 : 0 ≤ Xi T1 904 73 ∧ Xi T1 904 73 ≤ 5 := hHT1.c _ _
  have w65 : 0 ≤ Xi T1 904 74 ∧ Xi T1 904 74 ≤ 2600 := hHT1.c _ _
  have w66 : -2 ≤ Xi T1 904 78 ∧ Xi T1 904 78 ≤ 5010 := hHT1.c _ _
  have w67 : 0 ≤ Xi T1 904 81 ∧ Xi T1 904 81 ≤ 5010 := hHT1.c _ _
  have w68 : 0 ≤ Xi T1 904 94 ∧ Xi T1 904 94 ≤ 1700 := hHT1.c _ _
  have w69 : 0 ≤ Xi T1 904 98 ∧ Xi T1 904 98 ≤ 1700 := hHT1.c _ _
  refine l_aload_n rfl rfl ?_
  have s526 : Xi T1 904 70 ≠ 6 → Xi T1 904 102 < Xi T1 904 69 ∧ Xi T1 904 103 < Xi T1 904 69 := fun h => q526.2.2.2.1 (by omega)
  have v526 := hap.1 (by omega) (by omega)
  have w526 := hap.2.1 (by omega) (by omega)
  have x526 := hap.2.2.1 (by omega) (by omega)
  refine l_iload_n rfl rfl ?_
  have w70 : 0 ≤ Xi T1 904 102 ∧ Xi T1 904 102 ≤ 2600 := hHT1.c _ _
  have w71 : -1 ≤ Xi T1 904 103 ∧ Xi T1 904 103 ≤ 2600 := hHT1.c _ _
  have w72 : 0 ≤ Xi T1 904 106 ∧ Xi T1 904 106 ≤ 9 := hHT1.c _ _
  have w73 : 0 ≤ Xi T1 904 108 ∧ Xi T1 904 108 ≤ 2600 := hHT1.c _ _
  have w74 : -1 ≤ Xi T1 904 115 ∧ Xi T1 904 115 ≤ 15 := hHT1.c _ _
  have w75 : -1 ≤ Xi T1 904 116 ∧ Xi T1 904 116 ≤ 15 := hHT1.c _ _
  have w76 : 0 ≤ Xi T1 904 117 ∧ Xi T1 904 117 ≤ 480 := hHT1.c _ _
  have w77 : 0 ≤ Xi T1 904 142 ∧ Xi T1 904 142 ≤ 4 := hHT1.c _ _
  have w78 : -1 ≤ Xi T1 904 60 ∧ Xi T1 904 60 ≤ 23 := hHT1.c _ _
  have w79 : 0 ≤ Xi T1 904 69 ∧ Xi T1 904 69 ≤ 2600 := hHT1.c _ _
  have w80 : 0 ≤ Xi T1 904 70 ∧ Xi T1 904 70 ≤ 20 := hHT1.c _ _
  have w81 : 0 ≤ Xi T1 904 71 ∧ Xi T1 904 71 ≤ 2600 := hHT1.c _ _
  have w82 : 0 ≤ Xi T1 904 72 ∧ Xi T1 904 72 ≤ 2600 := hHT1.c _ _
  have w83 : 0 ≤ Xi T1 904 73 ∧ Xi T1 904 73 ≤ 5 := hHT1.c _ _
  have w84 : 0 ≤ Xi T1 904 74 ∧ Xi T1 904 74 ≤ 2600 := hHT1.c _ _
  have w85 : -2 ≤ Xi T1 904 78 ∧ Xi T1 904 78 ≤ 5010 := hHT1.c _ _
  have w86 : 0 ≤ Xi T1 904 81 ∧ Xi T1 904 81 ≤ 5010 := hHT1.c _ _
  have w87 : 0 ≤ Xi T1 904 94 ∧ Xi T1 904 94 ≤ 1700 := hHT1.c _ _
  have w88 : 0 ≤ Xi T1 904 98 ∧ Xi T1 904 98 ≤ 1700 := hHT1.c _ _
  refine l_callV rfl rfl rfl (t_mo_ruleMeant hHT1 n first ⟨by omega, by omega⟩ (by first | assumption | exact (TK_FR hFT1 rfl (by assumption : TK S _))) (by first | assumption | exact (RNV_FR hFT1 rfl (by assumption : RNV S _))) (by first | assumption | exact (LXM_FR hFT1 rfl (by assumption : LXM S))) (by first | assumption | exact (ABV_FR hFT1 rfl (by assumption : ABV S))) (by first | assumption | exact (DCM_FR hFT1 rfl (by assumption : DCM S))) (by first | assumption | exact (TXK_FR hFT1 rfl (by assumption : TXK S _))) (by first | assumption | exact (TXM_FR hFT1 rfl (by assumption : TXM S))) (by first | assumption | omega) (by rw [show Xi T1 904 94 = Xi S 904 94 by omega]; exact TVA_FR hFT1 rfl v526) (by first | assumption | omega) (by rw [show Xi T1 904 98 = Xi S 904 98 by omega]; exact PVA_FR hH hFT1 rfl w526) (by first | assumption | omega) (R526.1) (R526.2.2) (by first | assumption | omega) (by first | assumption | exact (PF_FR hFT1 rfl (by assumption : PF S))) _) ?_
  rintro _ T2 ⟨hHT2, w90, rfl, b528⟩
  have hFT2 : FR md_mo_asked S T2 := FR.tr hFT1 w90 rfl
  show Rl _ _ _ _ _ [] _ _
  have y528_69 : Xi T2 904 69 = Xi T1 904 69 := ((show Xi T2 904 69 = Xi T1 904 69 from w90.x _ _ rfl))
  have y528_70 : Xi T2 904 70 = Xi T1 904 70 := ((show Xi T2 904 70 = Xi T1 904 70 from w90.x _ _ rfl))
  have y528_71 : Xi T2 904 71 = Xi T1 904 71 := ((show Xi T2 904 71 = Xi T1 904 71 from w90.x _ _ rfl))
  have y528_72 : Xi T2 904 72 = Xi T1 904 72 := ((show Xi T2 904 72 = Xi T1 904 72 from w90.x _ _ rfl))
  have y528_73 : Xi T2 904 73 = Xi T1 904 73 := ((show Xi T2 904 73 = Xi T1 904 73 from w90.x _ _ rfl))
  have y528_74 : Xi T2 904 74 = Xi T1 904 74 := ((show Xi T2 904 74 = Xi T1 904 74 from w90.x _ _ rfl))
  have y528_78 : Xi T2 904 78 = Xi T1 904 78 := ((show Xi T2 904 78 = Xi T1 904 78 from w90.x _ _ rfl))
  have y528_81 : Xi T2 904 81 = Xi T1 904 81 := ((show Xi T2 904 81 = Xi T1 904 81 from w90.x _ _ rfl))
  have y528_94 : Xi T2 904 94 = Xi T1 904 94 := ((show Xi T2 904 94 = Xi T1 904 94 from w90.x _ _ rfl))
  have y528_98 : Xi T2 904 98 = Xi T1 904 98 := ((show Xi T2 904 98 = Xi T1 904 98 from w90.x _ _ rfl))
  have y528_60 : Xi T2 904 60 = Xi T1 904 60 := ((show Xi T2 904 60 = Xi T1 904 60 from w90.x _ _ rfl))
  have F528 : Xi T2 904 106 = 0 → DOK T2 := fun q => dok_3 (by omega)
  have R528 : Xi T2 904 106 = 0 → RDT T2 := fun q => (by obtain ⟨⟨a, b⟩, c, e⟩ := b528 q; exact ⟨a, def_keep R526.2.1 R526.2.2 hHT1 c ((by assumption : FR md_mo_ruleMeant T1 T2).x 904 23 rfl) e, b⟩)
  refine l_return rfl rfl ?_
  have w91 : 0 ≤ Xi T2 904 106 ∧ Xi T2 904 106 ≤ 9 := hHT2.c _ _
  have w92 : Xi T2 904 108 = Xi T1 904 108 := (show Xi T2 904 108 = Xi T1 904 108 from w90.x _ _ rfl)
  have w93 : 0 ≤ Xi T1 904 108 ∧ Xi T1 904 108 ≤ 2600 := hHT1.c _ _
  have w94 : -1 ≤ Xi T2 904 115 ∧ Xi T2 904 115 ≤ 15 := hHT2.c _ _
  have w95 : -1 ≤ Xi T2 904 116 ∧ Xi T2 904 116 ≤ 15 := hHT2.c _ _
  have w96 : 0 ≤ Xi T2 904 117 ∧ Xi T2 904 117 ≤ 480 := hHT2.c _ _
  have w97 : Xi T2 904 142 = Xi T1 904 142 := (show Xi T2 904 142 = Xi T1 904 142 from w90.x _ _ rfl)
  have w98 : 0 ≤ Xi T1 904 142 ∧ Xi T1 904 142 ≤ 4 := hHT1.c _ _
  have w99 : Xi T2 904 60 = Xi T1 904 60 := (show Xi T2 904 60 = Xi T1 904 60 from w90.x _ _ rfl)
  have w100 : -1 ≤ Xi T1 904 60 ∧ Xi T1 904 60 ≤ 23 := hHT1.c _ _
  have w101 : Xi T2 904 69 = Xi T1 904 69 := (show Xi T2 904 69 = Xi T1 904 69 from w90.x _ _ rfl)
  have w102 : 0 ≤ Xi T1 904 69 ∧ Xi T1 904 69 ≤ 2600 := hHT1.c _ _
  have w103 : Xi T2 904 70 = Xi T1 904 70 := (show Xi T2 904 70 = Xi T1 904 70 from w90.x _ _ rfl)
  have w104 : 0 ≤ Xi T1 904 70 ∧ Xi T1 904 70 ≤ 20 := hHT1.c _ _
  have w105 : Xi T2 904 71 = Xi T1 904 71 := (show Xi T2 904 71 = Xi T1 904 71 from w90.x _ _ rfl)
  have w106 : 0 ≤ Xi T1 904 71 ∧ Xi T1 904 71 ≤ 2600 := hHT1.c _ _
  have w107 : Xi T2 904 72 = Xi T1 904 72 := (show Xi T2 904 72 = Xi T1 904 72 from w90.x _ _ rfl)
  have w108 : 0 ≤ Xi T1 904 72 ∧ Xi T1 904 72 ≤ 2600 := hHT1.c _ _
  have w109 : Xi T2 904 73 = Xi T1 904 73 := (show Xi T2 904 73 = Xi T1 904 73 from w90.x _ _ rfl)
  have w110 : 0 ≤ Xi T1 904 73 ∧ Xi T1 904 73 ≤ 5 := hHT1.c _ _
  have w111 : Xi T2 904 74 = Xi T1 904 74 := (show Xi T2 904 74 = Xi T1 904 74 from w90.x _ _ rfl)
  have w112 : 0 ≤ Xi T1 904 74 ∧ Xi T1 904 74 ≤ 2600 := hHT1.c _ _
  have w113 : Xi T2 904 78 = Xi T1 904 78 := (show Xi T2 904 78 = Xi T1 904 78 from w90.x _ _ rfl)
  have w114 : -2 ≤ Xi T1 904 78 ∧ Xi T1 904 78 ≤ 5010 := hHT1.c _ _
  have w115 : Xi T2 904 81 = Xi T1 904 81 := (show Xi T2 904 81 = Xi T1 904 81 from w90.x _ _ rfl)
  have w116 : 0 ≤ Xi T1 904 81 ∧ Xi T1 904 81 ≤ 5010 := hHT1.c _ _
  have w117 : Xi T2 904 94 = Xi T1 904 94 := (show Xi T2 904 94 = Xi T1 904 94 from w90.x _ _ rfl)
  have w118 : 0 ≤ Xi T1 904 94 ∧ Xi T1 904 94 ≤ 1700 := hHT1.c _ _
  have w119 : Xi T2 904 98 = Xi T1 904 98 := (show Xi T2 904 98 = Xi T1 904 98 from w90.x _ _ rfl)
  have w120 : 0 ≤ Xi T1 904 98 ∧ Xi T1 904 98 ≤ 1700 := hHT1.c _ _
  exact ⟨hHT2, hFT2, rfl, (by assumption), (by first | exact fun q => by assumption | assumption | exact fun q => (by assumption : RDT T2))⟩
set_option maxRecDepth 100000 in
set_option maxHeartbeats 8000000 in
theorem c124_mo_asked {S : sS} (hH : HI S) (n : Nat) (dd : Nat) (first : Int) (hfirst : 0 ≤ first ∧ first ≤ 5001) (hT : TK S n) (hv : RNV S n) (hM : LXM S) (hB : ABV S) (hC : DCM S) (hK : TXK S n) (hX : TXM S) (hq : SNQ S n) (hap : AP9 S n) (h94 : Xi S 904 94 ≤ 1668) (hRD : RDT S) (hPF : PF S) (hdt : Xi S 904 70 = 20 → first ≤ dd ∧ dd < n ∧ Xi S 907 dd = 46) (d : Nat) : ∀  (T3 : sS) (_ : HI T3) (_ : FR md_mo_asked S T3), (Xi T3 904 117 = Xi S 904 117) → (Xi T3 904 69 = Xi S 904 69) → (Xi T3 904 70 = Xi S 904 70) → (Xi T3 904 71 = Xi S 904 71) → (Xi T3 904 72 = Xi S 904 72) → (Xi T3 904 73 = Xi S 904 73) → (Xi T3 904 74 = Xi S 904 74) → (Xi T3 904 78 = Xi S 904 78) → (Xi T3 904 81 = Xi S 904 81) → (Xi T3 904 94 = Xi S 904 94) → (Xi T3 904 98 = Xi S 904 98) → (Xi T3 904 60 = Xi S 904 60) → (Xi T3 904 106 = 0) → (Xi T3 904 108 = 0) → (Xi T3 904 115 = -1) → (Xi T3 904 116 = -1) → (SNQ T3 n) → (RDT T3) → (KQL T3 S (Xi S 904 117)) → (Xi S 904 70 = 0) → Rl lay0 (d + 12) m_mo_asked 124 [(0, .ref 904)] [] T3 (Q_mo_asked S n dd first) := by
  have hF : FR md_mo_asked S S := FR.rf
  have w1 : 0 ≤ Xi S 904 106 ∧ Xi S 904 106 ≤ 9 := hH.c _ _
  have w2 : 0 ≤ Xi S 904 108 ∧ Xi S 904 108 ≤ 2600 := hH.c _ _
  have w3 : -1 ≤ Xi S 904 115 ∧ Xi S 904 115 ≤ 15 := hH.c _ _
  have w4 : -1 ≤ Xi S 904 116 ∧ Xi S 904 116 ≤ 15 := hH.c _ _
  have w5 : 0 ≤ Xi S 904 117 ∧ Xi S 904 117 ≤ 480 := hH.c _ _
  have w6 : 0 ≤ Xi S 904 23 ∧ Xi S 904 23 ≤ 24 := hH.c _ _
  have w7 : 0 ≤ Xi S 904 41 ∧ Xi S 904 41 ≤ 6 := hH.c _ _
  have w8 : -1 ≤ Xi S 904 60 ∧ Xi S 904 60 ≤ 23 := hH.c _ _
  have w9 : 0 ≤ Xi S 904 69 ∧ Xi S 904 69 ≤ 2600 := hH.c _ _
  have w10 : 0 ≤ Xi S 904 70 ∧ Xi S 904 70 ≤ 20 := hH.c _ _
  have w11 : 0 ≤ Xi S 904 71 ∧ Xi S 904 71 ≤ 2600 := hH.c _ _
  have w12 : 0 ≤ Xi S 904 72 ∧ Xi S 904 72 ≤ 2600 := hH.c _ _
  have w13 : 0 ≤ Xi S 904 73 ∧ Xi S 904 73 ≤ 5 := hH.c _ _
  have w14 : 0 ≤ Xi S 904 74 ∧ Xi S 904 74 ≤ 2600 := hH.c _ _
  have w15 : -2 ≤ Xi S 904 78 ∧ Xi S 904 78 ≤ 5010 := hH.c _ _
  have w16 : 0 ≤ Xi S 904 81 ∧ Xi S 904 81 ≤ 5010 := hH.c _ _
  have w17 : 0 ≤ Xi S 904 94 ∧ Xi S 904 94 ≤ 1700 := hH.c _ _
  have w18 : 0 ≤ Xi S 904 98 ∧ Xi S 904 98 ≤ 1700 := hH.c _ _
  have w19 : 0 ≤ Xi S 951 0 ∧ Xi S 951 0 ≤ 5010 := hH.c _ _
  have w20 : 0 ≤ Xi S 951 1 ∧ Xi S 951 1 ≤ 5010 := hH.c _ _
  have hn5 := hT.1
  have hc69 : 0 ≤ Xi S 904 69 ∧ Xi S 904 69 ≤ 2600 := hH.c _ _
  have hc70 : 0 ≤ Xi S 904 70 ∧ Xi S 904 70 ≤ 20 := hH.c _ _
  have hc23 : 0 ≤ Xi S 904 23 ∧ Xi S 904 23 ≤ 24 := hH.c _ _
  have hrf : ∀ r : Int, 0 ≤ r → r < Xi S 904 69 → Xi S 950 r.toNat + Xi S 951 r.toNat ≤ n ∧ 1 ≤ Xi S 951 r.toNat := fun r a b => hv r.toNat (by omega)
  have hq0 : KQL S S (Xi S 904 117) := KQL.rf
  intro T3 hHT3 hFT3 w121 w122 w123 w124 w125 w126 w127 w128 w129 w130 w131 w132 w133 w134 w135 w136 q20 r20 K20 w137
  have w138 : Xi T3 904 102 = Xi S 904 102 := hFT3.x _ _ rfl
  have w139 : Xi T3 904 103 = Xi S 904 103 := hFT3.x _ _ rfl
  have w140 : Xi T3 904 16 = Xi S 904 16 := hFT3.x _ _ rfl
  have w141 : Xi T3 904 18 = Xi S 904 18 := hFT3.x _ _ rfl
  have w142 : Xi T3 904 19 = Xi S 904 19 := hFT3.x _ _ rfl
  have w143 : Xi T3 904 23 = Xi S 904 23 := hFT3.x _ _ rfl
  have w144 : Xi T3 904 30 = Xi S 904 30 := hFT3.x _ _ rfl
  have w145 : Xi T3 904 41 = Xi S 904 41 := hFT3.x _ _ rfl
  have w146 : Xi T3 904 47 = Xi S 904 47 := hFT3.x _ _ rfl
  have w147 : Xi T3 904 49 = Xi S 904 49 := hFT3.x _ _ rfl
  have w148 : Xi T3 904 55 = Xi S 904 55 := hFT3.x _ _ rfl
  have w149 : Xi T3 904 60 = Xi S 904 60 := hFT3.x _ _ rfl
  have w150 : Xi T3 904 69 = Xi S 904 69 := hFT3.x _ _ rfl
  have w151 : Xi T3 904 70 = Xi S 904 70 := hFT3.x _ _ rfl
  have w152 : Xi T3 904 71 = Xi S 904 71 := hFT3.x _ _ rfl
  have w153 : Xi T3 904 72 = Xi S 904 72 := hFT3.x _ _ rfl
  have w154 : Xi T3 904 73 = Xi S 904 73 := hFT3.x _ _ rfl
  have w155 : Xi T3 904 74 = Xi S 904 74 := hFT3.x _ _ rfl
  have w156 : Xi T3 904 78 = Xi S 904 78 := hFT3.x _ _ rfl
  have w157 : Xi T3 904 81 = Xi S 904 81 := hFT3.x _ _ rfl
  have w158 : Xi T3 904 94 = Xi S 904 94 := hFT3.x _ _ rfl
  have w159 : Xi T3 904 98 = Xi S 904 98 := hFT3.x _ _ rfl
  have w160 : Xi T3 951 0 = Xi S 951 0 := hFT3.x _ _ rfl
  have w161 : Xi T3 951 1 = Xi S 951 1 := hFT3.x _ _ rfl
  have w162 : 0 ≤ Xi T3 904 106 ∧ Xi T3 904 106 ≤ 9 := hHT3.c _ _
  have w163 : 0 ≤ Xi T3 904 108 ∧ Xi T3 904 108 ≤ 2600 := hHT3.c _ _
  have w164 : -1 ≤ Xi T3 904 115 ∧ Xi T3 904 115 ≤ 15 := hHT3.c _ _
  have w165 : -1 ≤ Xi T3 904 116 ∧ Xi T3 904 116 ≤ 15 := hHT3.c _ _
  have w166 : 0 ≤ Xi T3 904 117 ∧ Xi T3 904 117 ≤ 480 := hHT3.c _ _
  have w167 : -1 ≤ Xi T3 904 60 ∧ Xi T3 904 60 ≤ 23 := hHT3.c _ _
  have w168 : 0 ≤ Xi T3 904 69 ∧ Xi T3 904 69 ≤ 2600 := hHT3.c _ _
  have w169 : 0 ≤ Xi T3 904 70 ∧ Xi T3 904 70 ≤ 20 := hHT3.c _ _
  have w170 : 0 ≤ Xi T3 904 71 ∧ Xi T3 904 71 ≤ 2600 := hHT3.c _ _
  have w171 : 0 ≤ Xi T3 904 72 ∧ Xi T3 904 72 ≤ 2600 := hHT3.c _ _
  have w172 : 0 ≤ Xi T3 904 73 ∧ Xi T3 904 73 ≤ 5 := hHT3.c _ _
  have w173 : 0 ≤ Xi T3 904 74 ∧ Xi T3 904 74 ≤ 2600 := hHT3.c _ _
  have w174 : -2 ≤ Xi T3 904 78 ∧ Xi T3 904 78 ≤ 5010 := hHT3.c _ _
  have w175 : 0 ≤ Xi T3 904 81 ∧ Xi T3 904 81 ≤ 5010 := hHT3.c _ _
  have w176 : 0 ≤ Xi T3 904 94 ∧ Xi T3 904 94 ≤ 1700 := hHT3.c _ _
  have w177 : 0 ≤ Xi T3 904 98 ∧ Xi T3 904 98 ≤ 1700 := hHT3.c _ _
  refine l_aload_n rfl rfl ?_
  have s124 := q20.1 (by omega)
  refine l_aload_n rfl rfl ?_
  refine l_gfi rfl rfl rfl rfl rfl ?_
  refine l_iconst rfl ?_
  refine l_icmp_eq rfl rfl (by unfold rg; omega) (by unfold rg; omega) (fun w178 => ?_) (fun w179 => ?_)
  · refine l_iconst rfl ?_
    refine l_iconst rfl ?_
    refine l_aload_n rfl rfl ?_
    refine l_gfi rfl rfl rfl rfl rfl ?_
    have w180 : 0 ≤ Xi T3 904 106 ∧ Xi T3 904 106 ≤ 9 := hHT3.c _ _
    have w181 : 0 ≤ Xi T3 904 108 ∧ Xi T3 904 108 ≤ 2600 := hHT3.c _ _
    have w182 : -1 ≤ Xi T3 904 115 ∧ Xi T3 904 115 ≤ 15 := hHT3.c _ _
    have w183 : -1 ≤ Xi T3 904 116 ∧ Xi T3 904 116 ≤ 15 := hHT3.c _ _
    have w184 : 0 ≤ Xi T3 904 117 ∧ Xi T3 904 117 ≤ 480 := hHT3.c _ _
    have w185 : 0 ≤ Xi T3 904 142 ∧ Xi T3 904 142 ≤ 4 := hHT3.c _ _
    have w186 : -1 ≤ Xi T3 904 60 ∧ Xi T3 904 60 ≤ 23 := hHT3.c _ _
    have w187 : 0 ≤ Xi T3 904 69 ∧ Xi T3 904 69 ≤ 2600 := hHT3.c _ _
    have w188 : 0 ≤ Xi T3 904 70 ∧ Xi T3 904 70 ≤ 20 := hHT3.c _ _
    have w189 : 0 ≤ Xi T3 904 71 ∧ Xi T3 904 71 ≤ 2600 := hHT3.c _ _
    have w190 : 0 ≤ Xi T3 904 72 ∧ Xi T3 904 72 ≤ 2600 := hHT3.c _ _
    have w191 : 0 ≤ Xi T3 904 73 ∧ Xi T3 904 73 ≤ 5 := hHT3.c _ _
    have w192 : 0 ≤ Xi T3 904 74 ∧ Xi T3 904 74 ≤ 2600 := hHT3.c _ _
    have w193 : -2 ≤ Xi T3 904 78 ∧ Xi T3 904 78 ≤ 5010 := hHT3.c _ _
    have w194 : 0 ≤ Xi T3 904 81 ∧ Xi T3 904 81 ≤ 5010 := hHT3.c _ _
    have w195 : 0 ≤ Xi T3 904 94 ∧ Xi T3 904 94 ≤ 1700 := hHT3.c _ _
    have w196 : 0 ≤ Xi T3 904 98 ∧ Xi T3 904 98 ≤ 1700 := hHT3.c _ _
    refine l_callV rfl rfl rfl (t_mo_need hHT3 0 4 (Xi T3 904 81) ⟨by omega, by omega⟩ ⟨by omega, by omega⟩ ⟨by omega, by omega⟩ _) ?_
    rintro _ T4 ⟨hHT4, w200, rfl, w197, w198⟩
    have hFT4 : FR md_mo_asked S T4 := FR.tr hFT3 w200 rfl
    show Rl _ _ _ _ _ [] _ _
    have y143_69 : Xi T4 904 69 = Xi T3 904 69 := ((show Xi T4 904 69 = Xi T3 904 69 from w200.x _ _ rfl))
    have y143_70 : Xi T4 904 70 = Xi T3 904 70 := ((show Xi T4 904 70 = Xi T3 904 70 from w200.x _ _ rfl))
    have y143_71 : Xi T4 904 71 = Xi T3 904 71 := ((show Xi T4 904 71 = Xi T3 904 71 from w200.x _ _ rfl))
    have y143_72 : Xi T4 904 72 = Xi T3 904 72 := ((show Xi T4 904 72 = Xi T3 904 72 from w200.x _ _ rfl))
    have y143_73 : Xi T4 904 73 = Xi T3 904 73 := ((show Xi T4 904 73 = Xi T3 904 73 from w200.x _ _ rfl))
    have y143_74 : Xi T4 904 74 = Xi T3 904 74 := ((show Xi T4 904 74 = Xi T3 904 74 from w200.x _ _ rfl))
    have y143_78 : Xi T4 904 78 = Xi T3 904 78 := ((show Xi T4 904 78 = Xi T3 904 78 from w200.x _ _ rfl))
    have y143_81 : Xi T4 904 81 = Xi T3 904 81 := ((show Xi T4 904 81 = Xi T3 904 81 from w200.x _ _ rfl))
    have y143_94 : Xi T4 904 94 = Xi T3 904 94 := ((show Xi T4 904 94 = Xi T3 904 94 from w200.x _ _ rfl))
    have y143_98 : Xi T4 904 98 = Xi T3 904 98 := ((show Xi T4 904 98 = Xi T3 904 98 from w200.x _ _ rfl))
    have y143_60 : Xi T4 904 60 = Xi T3 904 60 := ((show Xi T4 904 60 = Xi T3 904 60 from w200.x _ _ rfl))
    have y143_117 : Xi T4 904 117 = Xi T3 904 117 := ((show Xi T4 904 117 = Xi T3 904 117 from w200.x _ _ rfl))
    have F143 : Xi T4 904 106 = 0 → DOK T4 := fun q => dok_0 (by omega) (by unfold D0; omega)
    refine l_goto rfl rfl ?_
    refine l_return rfl rfl ?_
    have w201 : 0 ≤ Xi T4 904 106 ∧ Xi T4 904 106 ≤ 9 := hHT4.c _ _
    have w202 : Xi T4 904 108 = Xi T3 904 108 := (show Xi T4 904 108 = Xi T3 904 108 from w200.x _ _ rfl)
    have w203 : 0 ≤ Xi T3 904 108 ∧ Xi T3 904 108 ≤ 2600 := hHT3.c _ _
    have w204 : Xi T4 904 109 = Xi T3 904 109 := (show Xi T4 904 109 = Xi T3 904 109 from w200.x _ _ rfl)
    have w205 : Xi T4 904 115 = Xi T3 904 115 := (show Xi T4 904 115 = Xi T3 904 115 from w200.x _ _ rfl)
    have w206 : -1 ≤ Xi T3 904 115 ∧ Xi T3 904 115 ≤ 15 := hHT3.c _ _
    have w207 : Xi T4 904 116 = Xi T3 904 116 := (show Xi T4 904 116 = Xi T3 904 116 from w200.x _ _ rfl)
    have w208 : -1 ≤ Xi T3 904 116 ∧ Xi T3 904 116 ≤ 15 := hHT3.c _ _
    have w209 : Xi T4 904 117 = Xi T3 904 117 := (show Xi T4 904 117 = Xi T3 904 117 from w200.x _ _ rfl)
    have w210 : 0 ≤ Xi T3 904 117 ∧ Xi T3 904 117 ≤ 480 := hHT3.c _ _
    have w211 : Xi T4 904 142 = Xi T3 904 142 := (show Xi T4 904 142 = Xi T3 904 142 from w200.x _ _ rfl)
    have w212 : 0 ≤ Xi T3 904 142 ∧ Xi T3 904 142 ≤ 4 := hHT3.c _ _
    have w213 : Xi T4 904 60 = Xi T3 904 60 := (show Xi T4 904 60 = Xi T3 904 60 from w200.x _ _ rfl)
    have w214 : -1 ≤ Xi T3 904 60 ∧ Xi T3 904 60 ≤ 23 := hHT3.c _ _
    have w215 : Xi T4 904 69 = Xi T3 904 69 := (show Xi T4 904 69 = Xi T3 904 69 from w200.x _ _ rfl)
    have w216 : 0 ≤ Xi T3 904 69 ∧ Xi T3 904 69 ≤ 2600 := hHT3.c _ _
    have w217 : Xi T4 904 70 = Xi T3 904 70 := (show Xi T4 904 70 = Xi T3 904 70 from w200.x _ _ rfl)
    have w218 : 0 ≤ Xi T3 904 70 ∧ Xi T3 904 70 ≤ 20 := hHT3.c _ _
    have w219 : Xi T4 904 71 = Xi T3 904 71 := (show Xi T4 904 71 = Xi T3 904 71 from w200.x _ _ rfl)
    have w220 : 0 ≤ Xi T3 904 71 ∧ Xi T3 904 71 ≤ 2600 := hHT3.c _ _
    have w221 : Xi T4 904 72 = Xi T3 904 72 := (show Xi T4 904 72 = Xi T3 904 72 from w200.x _ _ rfl)
    have w222 : 0 ≤ Xi T3 904 72 ∧ Xi T3 904 72 ≤ 2600 := hHT3.c _ _
    have w223 : Xi T4 904 73 = Xi T3 904 73 := (show Xi T4 904 73 = Xi T3 904 73 from w200.x _ _ rfl)
    have w224 : 0 ≤ Xi T3 904 73 ∧ Xi T3 904 73 ≤ 5 := hHT3.c _ _
    have w225 : Xi T4 904 74 = Xi T3 904 74 := (show Xi T4 904 74 = Xi T3 904 74 from w200.x _ _ rfl)
    have w226 : 0 ≤ Xi T3 904 74 ∧ Xi T3 904 74 ≤ 2600 := hHT3.c _ _
    have w227 : Xi T4 904 78 = Xi T3 904 78 := (show Xi T4 904 78 = Xi T3 904 78 from w200.x _ _ rfl)
    have w228 : -2 ≤ Xi T3 904 78 ∧ Xi T3 904 78 ≤ 5010 := hHT3.c _ _
    have w229 : Xi T4 904 81 = Xi T3 904 81 := (show Xi T4 904 81 = Xi T3 904 81 from w200.x _ _ rfl)
    have w230 : 0 ≤ Xi T3 904 81 ∧ Xi T3 904 81 ≤ 5010 := hHT3.c _ _
    have w231 : Xi T4 904 94 = Xi T3 904 94 := (show Xi T4 904 94 = Xi T3 904 94 from w200.x _ _ rfl)
    have w232 : 0 ≤ Xi T3 904 94 ∧ Xi T3 904 94 ≤ 1700 := hHT3.c _ _
    have w233 : Xi T4 904 98 = Xi T3 904 98 := (show Xi T4 904 98 = Xi T3 904 98 from w200.x _ _ rfl)
    have w234 : 0 ≤ Xi T3 904 98 ∧ Xi T3 904 98 ≤ 1700 := hHT3.c _ _
    exact ⟨hHT4, hFT4, rfl, (by assumption), (by first | exact fun q => by assumption | assumption | exact fun q => (RDT_FR hHT3 w200 rfl rfl rfl (by assumption : RDT T3)))⟩
  · refine l_iconst rfl ?_
    refine l_goto rfl rfl ?_
    refine l_iconst rfl ?_
    refine l_aload_n rfl rfl ?_
    refine l_gfi rfl rfl rfl rfl rfl ?_
    have w235 : 0 ≤ Xi T3 904 106 ∧ Xi T3 904 106 ≤ 9 := hHT3.c _ _
    have w236 : 0 ≤ Xi T3 904 108 ∧ Xi T3 904 108 ≤ 2600 := hHT3.c _ _
    have w237 : -1 ≤ Xi T3 904 115 ∧ Xi T3 904 115 ≤ 15 := hHT3.c _ _
    have w238 : -1 ≤ Xi T3 904 116 ∧ Xi T3 904 116 ≤ 15 := hHT3.c _ _
    have w239 : 0 ≤ Xi T3 904 117 ∧ Xi T3 904 117 ≤ 480 := hHT3.c _ _
    have w240 : 0 ≤ Xi T3 904 142 ∧ Xi T3 904 142 ≤ 4 := hHT3.c _ _
    have w241 : -1 ≤ Xi T3 904 60 ∧ Xi T3 904 60 ≤ 23 := hHT3.c _ _
    have w242 : 0 ≤ Xi T3 904 69 ∧ Xi T3 904 69 ≤ 2600 := hHT3.c _ _
    have w243 : 0 ≤ Xi T3 904 70 ∧ Xi T3 904 70 ≤ 20 := hHT3.c _ _
    have w244 : 0 ≤ Xi T3 904 71 ∧ Xi T3 904 71 ≤ 2600 := hHT3.c _ _
    have w245 : 0 ≤ Xi T3 904 72 ∧ Xi T3 904 72 ≤ 2600 := hHT3.c _ _
    have w246 : 0 ≤ Xi T3 904 73 ∧ Xi T3 904 73 ≤ 5 := hHT3.c _ _
    have w247 : 0 ≤ Xi T3 904 74 ∧ Xi T3 904 74 ≤ 2600 := hHT3.c _ _
    have w248 : -2 ≤ Xi T3 904 78 ∧ Xi T3 904 78 ≤ 5010 := hHT3.c _ _
    have w249 : 0 ≤ Xi T3 904 81 ∧ Xi T3 904 81 ≤ 5010 := hHT3.c _ _
    have w250 : 0 ≤ Xi T3 904 94 ∧ Xi T3 904 94 ≤ 1700 := hHT3.c _ _
    have w251 : 0 ≤ Xi T3 904 98 ∧ Xi T3 904 98 ≤ 1700 := hHT3.c _ _
    refine l_callV rfl rfl rfl (t_mo_need hHT3 1 4 (Xi T3 904 81) ⟨by omega, by omega⟩ ⟨by omega, by omega⟩ ⟨by omega, by omega⟩ _) ?_
    rintro _ T5 ⟨hHT5, w255, rfl, w252, w253⟩
    have hFT5 : FR md_mo_asked S T5 := FR.tr hFT3 w255 rfl
    show Rl _ _ _ _ _ [] _ _
    have y143_69 : Xi T5 904 69 = Xi T3 904 69 := ((show Xi T5 904 69 = Xi T3 904 69 from w255.x _ _ rfl))
    have y143_70 : Xi T5 904 70 = Xi T3 904 70 := ((show Xi T5 904 70 = Xi T3 904 70 from w255.x _ _ rfl))
    have y143_71 : Xi T5 904 71 = Xi T3 904 71 := ((show Xi T5 904 71 = Xi T3 904 71 from w255.x _ _ rfl))
    have y143_72 : Xi T5 904 72 = Xi T3 904 72 := ((show Xi T5 904 72 = Xi T3 904 72 from w255.x _ _ rfl))
    have y143_73 : Xi T5 904 73 = Xi T3 904 73 := ((show Xi T5 904 73 = Xi T3 904 73 from w255.x _ _ rfl))
    have y143_74 : Xi T5 904 74 = Xi T3 904 74 := ((show Xi T5 904 74 = Xi T3 904 74 from w255.x _ _ rfl))
    have y143_78 : Xi T5 904 78 = Xi T3 904 78 := ((show Xi T5 904 78 = Xi T3 904 78 from w255.x _ _ rfl))
    have y143_81 : Xi T5 904 81 = Xi T3 904 81 := ((show Xi T5 904 81 = Xi T3 904 81 from w255.x _ _ rfl))
    have y143_94 : Xi T5 904 94 = Xi T3 904 94 := ((show Xi T5 904 94 = Xi T3 904 94 from w255.x _ _ rfl))
    have y143_98 : Xi T5 904 98 = Xi T3 904 98 := ((show Xi T5 904 98 = Xi T3 904 98 from w255.x _ _ rfl))
    have y143_60 : Xi T5 904 60 = Xi T3 904 60 := ((show Xi T5 904 60 = Xi T3 904 60 from w255.x _ _ rfl))
    have y143_117 : Xi T5 904 117 = Xi T3 904 117 := ((show Xi T5 904 117 = Xi T3 904 117 from w255.x _ _ rfl))
    have F143 : Xi T5 904 106 = 0 → DOK T5 := fun q => dok_0 (by omega) (by unfold D0; omega)
    refine l_goto rfl rfl ?_
    refine l_return rfl rfl ?_
    have w256 : 0 ≤ Xi T5 904 106 ∧ Xi T5 904 106 ≤ 9 := hHT5.c _ _
    have w257 : Xi T5 904 108 = Xi T3 904 108 := (show Xi T5 904 108 = Xi T3 904 108 from w255.x _ _ rfl)
    have w258 : 0 ≤ Xi T3 904 108 ∧ Xi T3 904 108 ≤ 2600 := hHT3.c _ _
    have w259 : Xi T5 904 109 = Xi T3 904 109 := (show Xi T5 904 109 = Xi T3 904 109 from w255.x _ _ rfl)
    have w260 : Xi T5 904 115 = Xi T3 904 115 := (show Xi T5 904 115 = Xi T3 904 115 from w255.x _ _ rfl)
    have w261 : -1 ≤ Xi T3 904 115 ∧ Xi T3 904 115 ≤ 15 := hHT3.c _ _
    have w262 : Xi T5 904 116 = Xi T3 904 116 := (show Xi T5 904 116 = Xi T3 904 116 from w255.x _ _ rfl)
    have w263 : -1 ≤ Xi T3 904 116 ∧ Xi T3 904 116 ≤ 15 := hHT3.c _ _
    have w264 : Xi T5 904 117 = Xi T3 904 117 := (show Xi T5 904 117 = Xi T3 904 117 from w255.x _ _ rfl)
    have w265 : 0 ≤ Xi T3 904 117 ∧ Xi T3 904 117 ≤ 480 := hHT3.c _ _
    have w266 : Xi T5 904 142 = Xi T3 904 142 := (show Xi T5 904 142 = Xi T3 904 142 from w255.x _ _ rfl)
    have w267 : 0 ≤ Xi T3 904 142 ∧ Xi T3 904 142 ≤ 4 := hHT3.c _ _
    have w268 : Xi T5 904 60 = Xi T3 904 60 := (show Xi T5 904 60 = Xi T3 904 60 from w255.x _ _ rfl)
    have w269 : -1 ≤ Xi T3 904 60 ∧ Xi T3 904 60 ≤ 23 := hHT3.c _ _
    have w270 : Xi T5 904 69 = Xi T3 904 69 := (show Xi T5 904 69 = Xi T3 904 69 from w255.x _ _ rfl)
    have w271 : 0 ≤ Xi T3 904 69 ∧ Xi T3 904 69 ≤ 2600 := hHT3.c _ _
    have w272 : Xi T5 904 70 = Xi T3 904 70 := (show Xi T5 904 70 = Xi T3 904 70 from w255.x _ _ rfl)
    have w273 : 0 ≤ Xi T3 904 70 ∧ Xi T3 904 70 ≤ 20 := hHT3.c _ _
    have w274 : Xi T5 904 71 = Xi T3 904 71 := (show Xi T5 904 71 = Xi T3 904 71 from w255.x _ _ rfl)
    have w275 : 0 ≤ Xi T3 904 71 ∧ Xi T3 904 71 ≤ 2600 := hHT3.c _ _
    have w276 : Xi T5 904 72 = Xi T3 904 72 := (show Xi T5 904 72 = Xi T3 904 72 from w255.x _ _ rfl)
    have w277 : 0 ≤ Xi T3 904 72 ∧ Xi T3 904 72 ≤ 2600 := hHT3.c _ _
    have w278 : Xi T5 904 73 = Xi T3 904 73 := (show Xi T5 904 73 = Xi T3 904 73 from w255.x _ _ rfl)
    have w279 : 0 ≤ Xi T3 904 73 ∧ Xi T3 904 73 ≤ 5 := hHT3.c _ _
    have w280 : Xi T5 904 74 = Xi T3 904 74 := (show Xi T5 904 74 = Xi T3 904 74 from w255.x _ _ rfl)
    have w281 : 0 ≤ Xi T3 904 74 ∧ Xi T3 904 74 ≤ 2600 := hHT3.c _ _
    have w282 : Xi T5 904 78 = Xi T3 904 78 := (show Xi T5 904 78 = Xi T3 904 78 from w255.x _ _ rfl)
    have w283 : -2 ≤ Xi T3 904 78 ∧ Xi T3 904 78 ≤ 5010 := hHT3.c _ _
    have w284 : Xi T5 904 81 = Xi T3 904 81 := (show Xi T5 904 81 = Xi T3 904 81 from w255.x _ _ rfl)
    have w285 : 0 ≤ Xi T3 904 81 ∧ Xi T3 904 81 ≤ 5010 := hHT3.c _ _
    have w286 : Xi T5 904 94 = Xi T3 904 94 := (show Xi T5 904 94 = Xi T3 904 94 from w255.x _ _ rfl)
    have w287 : 0 ≤ Xi T3 904 94 ∧ Xi T3 904 94 ≤ 1700 := hHT3.c _ _
    have w288 : Xi T5 904 98 = Xi T3 904 98 := (show Xi T5 904 98 = Xi T3 904 98 from w255.x _ _ rfl)
    have w289 : 0 ≤ Xi T3 904 98 ∧ Xi T3 904 98 ≤ 1700 := hHT3.c _ _
    exact ⟨hHT5, hFT5, rfl, (by assumption), (by first | exact fun q => by assumption | assumption | exact fun q => (RDT_FR hHT3 w255 rfl rfl rfl (by assumption : RDT T3)))⟩
set_option maxRecDepth 100000 in
set_option maxHeartbeats 8000000 in
theorem c149_mo_asked {S : sS} (hH : HI S) (n : Nat) (dd : Nat) (first : Int) (hfirst : 0 ≤ first ∧ first ≤ 5001) (hT : TK S n) (hv : RNV S n) (hM : LXM S) (hB : ABV S) (hC : DCM S) (hK : TXK S n) (hX : TXM S) (hq : SNQ S n) (hap : AP9 S n) (h94 : Xi S 904 94 ≤ 1668) (hRD : RDT S) (hPF : PF S) (hdt : Xi S 904 70 = 20 → first ≤ dd ∧ dd < n ∧ Xi S 907 dd = 46) (d : Nat) : ∀  (T6 : sS) (_ : HI T6) (_ : FR md_mo_asked S T6), (Xi T6 904 117 = Xi S 904 117) → (Xi T6 904 69 = Xi S 904 69) → (Xi T6 904 70 = Xi S 904 70) → (Xi T6 904 71 = Xi S 904 71) → (Xi T6 904 72 = Xi S 904 72) → (Xi T6 904 73 = Xi S 904 73) → (Xi T6 904 74 = Xi S 904 74) → (Xi T6 904 78 = Xi S 904 78) → (Xi T6 904 81 = Xi S 904 81) → (Xi T6 904 94 = Xi S 904 94) → (Xi T6 904 98 = Xi S 904 98) → (Xi T6 904 60 = Xi S 904 60) → (Xi T6 904 106 = 0) → (Xi T6 904 108 = 0) → (Xi T6 904 115 = -1) → (Xi T6 904 116 = -1) → (SNQ T6 n) → (RDT T6) → (KQL T6 S (Xi S 904 117)) → (Xi S 904 70 = 1) → Rl lay0 (d + 12) m_mo_asked 149 [(0, .ref 904)] [] T6 (Q_mo_asked S n dd first) := by
  have hF : FR md_mo_asked S S := FR.rf
  have w1 : 0 ≤ Xi S 904 106 ∧ Xi S 904 106 ≤ 9 := hH.c _ _
  have w2 : 0 ≤ Xi S 904 108 ∧ Xi S 904 108 ≤ 2600 := hH.c _ _
  have w3 : -1 ≤ Xi S 904 115 ∧ Xi S 904 115 ≤ 15 := hH.c _ _
  have w4 : -1 ≤ Xi S 904 116 ∧ Xi S 904 116 ≤ 15 := hH.c _ _
  have w5 : 0 ≤ Xi S 904 117 ∧ Xi S 904 117 ≤ 480 := hH.c _ _
  have w6 : 0 ≤ Xi S 904 23 ∧ Xi S 904 23 ≤ 24 := hH.c _ _
  have w7 : 0 ≤ Xi S 904 41 ∧ Xi S 904 41 ≤ 6 := hH.c _ _
  have w8 : -1 ≤ Xi S 904 60 ∧ Xi S 904 60 ≤ 23 := hH.c _ _
  have w9 : 0 ≤ Xi S 904 69 ∧ Xi S 904 69 ≤ 2600 := hH.c _ _
  have w10 : 0 ≤ Xi S 904 70 ∧ Xi S 904 70 ≤ 20 := hH.c _ _
  have w11 : 0 ≤ Xi S 904 71 ∧ Xi S 904 71 ≤ 2600 := hH.c _ _
  have w12 : 0 ≤ Xi S 904 72 ∧ Xi S 904 72 ≤ 2600 := hH.c _ _
  have w13 : 0 ≤ Xi S 904 73 ∧ Xi S 904 73 ≤ 5 := hH.c _ _
  have w14 : 0 ≤ Xi S 904 74 ∧ Xi S 904 74 ≤ 2600 := hH.c _ _
  have w15 : -2 ≤ Xi S 904 78 ∧ Xi S 904 78 ≤ 5010 := hH.c _ _
  have w16 : 0 ≤ Xi S 904 81 ∧ Xi S 904 81 ≤ 5010 := hH.c _ _
  have w17 : 0 ≤ Xi S 904 94 ∧ Xi S 904 94 ≤ 1700 := hH.c _ _
  have w18 : 0 ≤ Xi S 904 98 ∧ Xi S 904 98 ≤ 1700 := hH.c _ _
  have w19 : 0 ≤ Xi S 951 0 ∧ Xi S 951 0 ≤ 5010 := hH.c _ _
  have w20 : 0 ≤ Xi S 951 1 ∧ Xi S 951 1 ≤ 5010 := hH.c _ _
  have hn5 := hT.1
  have hc69 : 0 ≤ Xi S 904 69 ∧ Xi S 904 69 ≤ 2600 := hH.c _ _
  have hc70 : 0 ≤ Xi S 904 70 ∧ Xi S 904 70 ≤ 20 := hH.c _ _
  have hc23 : 0 ≤ Xi S 904 23 ∧ Xi S 904 23 ≤ 24 := hH.c _ _
  have hrf : ∀ r : Int, 0 ≤ r → r < Xi S 904 69 → Xi S 950 r.toNat + Xi S 951 r.toNat ≤ n ∧ 1 ≤ Xi S 951 r.toNat := fun r a b => hv r.toNat (by omega)
  have hq0 : KQL S S (Xi S 904 117) := KQL.rf
  intro T6 hHT6 hFT6 w290 w291 w292 w293 w294 w295 w296 w297 w298 w299 w300 w301 w302 w303 w304 w305 q20 r20 K20 w306
  have w307 : Xi T6 904 102 = Xi S 904 102 := hFT6.x _ _ rfl
  have w308 : Xi T6 904 103 = Xi S 904 103 := hFT6.x _ _ rfl
  have w309 : Xi T6 904 16 = Xi S 904 16 := hFT6.x _ _ rfl
  have w310 : Xi T6 904 18 = Xi S 904 18 := hFT6.x _ _ rfl
  have w311 : Xi T6 904 19 = Xi S 904 19 := hFT6.x _ _ rfl
  have w312 : Xi T6 904 23 = Xi S 904 23 := hFT6.x _ _ rfl
  have w313 : Xi T6 904 30 = Xi S 904 30 := hFT6.x _ _ rfl
  have w314 : Xi T6 904 41 = Xi S 904 41 := hFT6.x _ _ rfl
  have w315 : Xi T6 904 47 = Xi S 904 47 := hFT6.x _ _ rfl
  have w316 : Xi T6 904 49 = Xi S 904 49 := hFT6.x _ _ rfl
  have w317 : Xi T6 904 55 = Xi S 904 55 := hFT6.x _ _ rfl
  have w318 : Xi T6 904 60 = Xi S 904 60 := hFT6.x _ _ rfl
  have w319 : Xi T6 904 69 = Xi S 904 69 := hFT6.x _ _ rfl
  have w320 : Xi T6 904 70 = Xi S 904 70 := hFT6.x _ _ rfl
  have w321 : Xi T6 904 71 = Xi S 904 71 := hFT6.x _ _ rfl
  have w322 : Xi T6 904 72 = Xi S 904 72 := hFT6.x _ _ rfl
  have w323 : Xi T6 904 73 = Xi S 904 73 := hFT6.x _ _ rfl
  have w324 : Xi T6 904 74 = Xi S 904 74 := hFT6.x _ _ rfl
  have w325 : Xi T6 904 78 = Xi S 904 78 := hFT6.x _ _ rfl
  have w326 : Xi T6 904 81 = Xi S 904 81 := hFT6.x _ _ rfl
  have w327 : Xi T6 904 94 = Xi S 904 94 := hFT6.x _ _ rfl
  have w328 : Xi T6 904 98 = Xi S 904 98 := hFT6.x _ _ rfl
  have w329 : Xi T6 951 0 = Xi S 951 0 := hFT6.x _ _ rfl
  have w330 : Xi T6 951 1 = Xi S 951 1 := hFT6.x _ _ rfl
  have w331 : 0 ≤ Xi T6 904 106 ∧ Xi T6 904 106 ≤ 9 := hHT6.c _ _
  have w332 : 0 ≤ Xi T6 904 108 ∧ Xi T6 904 108 ≤ 2600 := hHT6.c _ _
  have w333 : -1 ≤ Xi T6 904 115 ∧ Xi T6 904 115 ≤ 15 := hHT6.c _ _
  have w334 : -1 ≤ Xi T6 904 116 ∧ Xi T6 904 116 ≤ 15 := hHT6.c _ _
  have w335 : 0 ≤ Xi T6 904 117 ∧ Xi T6 904 117 ≤ 480 := hHT6.c _ _
  have w336 : -1 ≤ Xi T6 904 60 ∧ Xi T6 904 60 ≤ 23 := hHT6.c _ _
  have w337 : 0 ≤ Xi T6 904 69 ∧ Xi T6 904 69 ≤ 2600 := hHT6.c _ _
  have w338 : 0 ≤ Xi T6 904 70 ∧ Xi T6 904 70 ≤ 20 := hHT6.c _ _
  have w339 : 0 ≤ Xi T6 904 71 ∧ Xi T6 904 71 ≤ 2600 := hHT6.c _ _
  have w340 : 0 ≤ Xi T6 904 72 ∧ Xi T6 904 72 ≤ 2600 := hHT6.c _ _
  have w341 : 0 ≤ Xi T6 904 73 ∧ Xi T6 904 73 ≤ 5 := hHT6.c _ _
  have w342 : 0 ≤ Xi T6 904 74 ∧ Xi T6 904 74 ≤ 2600 := hHT6.c _ _
  have w343 : -2 ≤ Xi T6 904 78 ∧ Xi T6 904 78 ≤ 5010 := hHT6.c _ _
  have w344 : 0 ≤ Xi T6 904 81 ∧ Xi T6 904 81 ≤ 5010 := hHT6.c _ _
  have w345 : 0 ≤ Xi T6 904 94 ∧ Xi T6 904 94 ≤ 1700 := hHT6.c _ _
  have w346 : 0 ≤ Xi T6 904 98 ∧ Xi T6 904 98 ≤ 1700 := hHT6.c _ _
  refine l_aload_n rfl rfl ?_
  have s149 := q20.1 (by omega)
  have t149 := q20.2.1 (by omega)
  have l149 : Xi T6 904 81 < n := tk_lt (TK_FR hFT6 rfl hT) (by omega) s149.1 (by have t := s149.2; omega)
  have w347 : 0 ≤ Xi T6 904 106 ∧ Xi T6 904 106 ≤ 9 := hHT6.c _ _
  have w348 : 0 ≤ Xi T6 904 108 ∧ Xi T6 904 108 ≤ 2600 := hHT6.c _ _
  have w349 : -1 ≤ Xi T6 904 115 ∧ Xi T6 904 115 ≤ 15 := hHT6.c _ _
  have w350 : -1 ≤ Xi T6 904 116 ∧ Xi T6 904 116 ≤ 15 := hHT6.c _ _
  have w351 : 0 ≤ Xi T6 904 117 ∧ Xi T6 904 117 ≤ 480 := hHT6.c _ _
  have w352 : 0 ≤ Xi T6 904 142 ∧ Xi T6 904 142 ≤ 4 := hHT6.c _ _
  have w353 : 0 ≤ Xi T6 904 55 ∧ Xi T6 904 55 ≤ 20 := hHT6.c _ _
  have w354 : -1 ≤ Xi T6 904 60 ∧ Xi T6 904 60 ≤ 23 := hHT6.c _ _
  have w355 : 0 ≤ Xi T6 904 69 ∧ Xi T6 904 69 ≤ 2600 := hHT6.c _ _
  have w356 : 0 ≤ Xi T6 904 70 ∧ Xi T6 904 70 ≤ 20 := hHT6.c _ _
  have w357 : 0 ≤ Xi T6 904 71 ∧ Xi T6 904 71 ≤ 2600 := hHT6.c _ _
  have w358 : 0 ≤ Xi T6 904 72 ∧ Xi T6 904 72 ≤ 2600 := hHT6.c _ _
  have w359 : 0 ≤ Xi T6 904 73 ∧ Xi T6 904 73 ≤ 5 := hHT6.c _ _
  have w360 : 0 ≤ Xi T6 904 74 ∧ Xi T6 904 74 ≤ 2600 := hHT6.c _ _
  have w361 : -2 ≤ Xi T6 904 78 ∧ Xi T6 904 78 ≤ 5010 := hHT6.c _ _
  have w362 : 0 ≤ Xi T6 904 81 ∧ Xi T6 904 81 ≤ 5010 := hHT6.c _ _
  have w363 : 0 ≤ Xi T6 904 94 ∧ Xi T6 904 94 ≤ 1700 := hHT6.c _ _
  have w364 : 0 ≤ Xi T6 904 98 ∧ Xi T6 904 98 ≤ 1700 := hHT6.c _ _
  refine l_callV rfl rfl rfl (t_mo_askCommand hHT6 n (by first | assumption | exact (TK_FR hFT6 rfl (by assumption : TK S _))) (by first | assumption | exact (RNV_FR hFT6 rfl (by assumption : RNV S _))) (by first | assumption | exact (LXM_FR hFT6 rfl (by assumption : LXM S))) (by first | assumption | exact (ABV_FR hFT6 rfl (by assumption : ABV S))) (by first | assumption | exact (TXK_FR hFT6 rfl (by assumption : TXK S _))) (by first | assumption | omega) (⟨l149, s149.2⟩) _) ?_
  rintro _ T7 ⟨hHT7, w366, rfl, f150⟩
  have hFT7 : FR md_mo_asked S T7 := FR.tr hFT6 w366 rfl
  show Rl _ _ _ _ _ [] _ _
  have y150_69 : Xi T7 904 69 = Xi T6 904 69 := ((show Xi T7 904 69 = Xi T6 904 69 from w366.x _ _ rfl))
  have y150_70 : Xi T7 904 70 = Xi T6 904 70 := ((show Xi T7 904 70 = Xi T6 904 70 from w366.x _ _ rfl))
  have y150_71 : Xi T7 904 71 = Xi T6 904 71 := ((show Xi T7 904 71 = Xi T6 904 71 from w366.x _ _ rfl))
  have y150_72 : Xi T7 904 72 = Xi T6 904 72 := ((show Xi T7 904 72 = Xi T6 904 72 from w366.x _ _ rfl))
  have y150_73 : Xi T7 904 73 = Xi T6 904 73 := ((show Xi T7 904 73 = Xi T6 904 73 from w366.x _ _ rfl))
  have y150_74 : Xi T7 904 74 = Xi T6 904 74 := ((show Xi T7 904 74 = Xi T6 904 74 from w366.x _ _ rfl))
  have y150_78 : Xi T7 904 78 = Xi T6 904 78 := ((show Xi T7 904 78 = Xi T6 904 78 from w366.x _ _ rfl))
  have y150_81 : Xi T7 904 81 = Xi T6 904 81 := ((show Xi T7 904 81 = Xi T6 904 81 from w366.x _ _ rfl))
  have y150_94 : Xi T7 904 94 = Xi T6 904 94 := ((show Xi T7 904 94 = Xi T6 904 94 from w366.x _ _ rfl))
  have y150_98 : Xi T7 904 98 = Xi T6 904 98 := ((show Xi T7 904 98 = Xi T6 904 98 from w366.x _ _ rfl))
  have y150_60 : Xi T7 904 60 = Xi T6 904 60 := ((show Xi T7 904 60 = Xi T6 904 60 from w366.x _ _ rfl))
  have y150_117 : Xi T7 904 117 = Xi T6 904 117 := ((show Xi T7 904 117 = Xi T6 904 117 from w366.x _ _ rfl))
  have u150_55 : Xi T7 904 55 = Xi S 904 55 := hFT7.x 904 55 rfl
  have F150 : Xi T7 904 106 = 0 → DOK T7 := fun q => dok_1 (by omega) (⟨by have t := (f150 q).1; have u : Xi T6 904 55 = Xi S 904 55 := hFT6.x 904 55 rfl; omega, by rw [rnR_FR hFT7 rfl rfl]; have t := (f150 q).2; rw [rnR_FR hFT6 rfl rfl] at t; exact t⟩)
  refine l_goto rfl rfl ?_
  refine l_return rfl rfl ?_
  have w367 : 0 ≤ Xi T7 904 106 ∧ Xi T7 904 106 ≤ 9 := hHT7.c _ _
  have w368 : Xi T7 904 108 = Xi T6 904 108 := (show Xi T7 904 108 = Xi T6 904 108 from w366.x _ _ rfl)
  have w369 : 0 ≤ Xi T6 904 108 ∧ Xi T6 904 108 ≤ 2600 := hHT6.c _ _
  have w370 : Xi T7 904 109 = Xi T6 904 109 := (show Xi T7 904 109 = Xi T6 904 109 from w366.x _ _ rfl)
  have w371 : Xi T7 904 115 = Xi T6 904 115 := (show Xi T7 904 115 = Xi T6 904 115 from w366.x _ _ rfl)
  have w372 : -1 ≤ Xi T6 904 115 ∧ Xi T6 904 115 ≤ 15 := hHT6.c _ _
  have w373 : Xi T7 904 116 = Xi T6 904 116 := (show Xi T7 904 116 = Xi T6 904 116 from w366.x _ _ rfl)
  have w374 : -1 ≤ Xi T6 904 116 ∧ Xi T6 904 116 ≤ 15 := hHT6.c _ _
  have w375 : Xi T7 904 117 = Xi T6 904 117 := (show Xi T7 904 117 = Xi T6 904 117 from w366.x _ _ rfl)
  have w376 : 0 ≤ Xi T6 904 117 ∧ Xi T6 904 117 ≤ 480 := hHT6.c _ _
  have w377 : Xi T7 904 142 = Xi T6 904 142 := (show Xi T7 904 142 = Xi T6 904 142 from w366.x _ _ rfl)
  have w378 : 0 ≤ Xi T6 904 142 ∧ Xi T6 904 142 ≤ 4 := hHT6.c _ _
  have w379 : Xi T7 904 60 = Xi T6 904 60 := (show Xi T7 904 60 = Xi T6 904 60 from w366.x _ _ rfl)
  have w380 : -1 ≤ Xi T6 904 60 ∧ Xi T6 904 60 ≤ 23 := hHT6.c _ _
  have w381 : Xi T7 904 69 = Xi T6 904 69 := (show Xi T7 904 69 = Xi T6 904 69 from w366.x _ _ rfl)
  have w382 : 0 ≤ Xi T6 904 69 ∧ Xi T6 904 69 ≤ 2600 := hHT6.c _ _
  have w383 : Xi T7 904 70 = Xi T6 904 70 := (show Xi T7 904 70 = Xi T6 904 70 from w366.x _ _ rfl)
  have w384 : 0 ≤ Xi T6 904 70 ∧ Xi T6 904 70 ≤ 20 := hHT6.c _ _
  have w385 : Xi T7 904 71 = Xi T6 904 71 := (show Xi T7 904 71 = Xi T6 904 71 from w366.x _ _ rfl)
  have w386 : 0 ≤ Xi T6 904 71 ∧ Xi T6 904 71 ≤ 2600 := hHT6.c _ _
  have w387 : Xi T7 904 72 = Xi T6 904 72 := (show Xi T7 904 72 = Xi T6 904 72 from w366.x _ _ rfl)
  have w388 : 0 ≤ Xi T6 904 72 ∧ Xi T6 904 72 ≤ 2600 := hHT6.c _ _
  have w389 : Xi T7 904 73 = Xi T6 904 73 := (show Xi T7 904 73 = Xi T6 904 73 from w366.x _ _ rfl)
  have w390 : 0 ≤ Xi T6 904 73 ∧ Xi T6 904 73 ≤ 5 := hHT6.c _ _
  have w391 : Xi T7 904 74 = Xi T6 904 74 := (show Xi T7 904 74 = Xi T6 904 74 from w366.x _ _ rfl)
  have w392 : 0 ≤ Xi T6 904 74 ∧ Xi T6 904 74 ≤ 2600 := hHT6.c _ _
  have w393 : Xi T7 904 78 = Xi T6 904 78 := (show Xi T7 904 78 = Xi T6 904 78 from w366.x _ _ rfl)
  have w394 : -2 ≤ Xi T6 904 78 ∧ Xi T6 904 78 ≤ 5010 := hHT6.c _ _
  have w395 : Xi T7 904 81 = Xi T6 904 81 := (show Xi T7 904 81 = Xi T6 904 81 from w366.x _ _ rfl)
  have w396 : 0 ≤ Xi T6 904 81 ∧ Xi T6 904 81 ≤ 5010 := hHT6.c _ _
  have w397 : Xi T7 904 94 = Xi T6 904 94 := (show Xi T7 904 94 = Xi T6 904 94 from w366.x _ _ rfl)
  have w398 : 0 ≤ Xi T6 904 94 ∧ Xi T6 904 94 ≤ 1700 := hHT6.c _ _
  have w399 : Xi T7 904 98 = Xi T6 904 98 := (show Xi T7 904 98 = Xi T6 904 98 from w366.x _ _ rfl)
  have w400 : 0 ≤ Xi T6 904 98 ∧ Xi T6 904 98 ≤ 1700 := hHT6.c _ _
  exact ⟨hHT7, hFT7, rfl, (by assumption), (by first | exact fun q => by assumption | assumption | exact fun q => (RDT_FR hHT6 w366 rfl rfl rfl (by assumption : RDT T6)))⟩
set_option maxRecDepth 100000 in
set_option maxHeartbeats 8000000 in
theorem c156_mo_asked {S : sS} (hH : HI S) (n : Nat) (dd : Nat) (first : Int) (hfirst : 0 ≤ first ∧ first ≤ 5001) (hT : TK S n) (hv : RNV S n) (hM : LXM S) (hB : ABV S) (hC : DCM S) (hK : TXK S n) (hX : TXM S) (hq : SNQ S n) (hap : AP9 S n) (h94 : Xi S 904 94 ≤ 1668) (hRD : RDT S) (hPF : PF S) (hdt : Xi S 904 70 = 20 → first ≤ dd ∧ dd < n ∧ Xi S 907 dd = 46) (d : Nat) : ∀  (T8 : sS) (_ : HI T8) (_ : FR md_mo_asked S T8), (Xi T8 904 117 = Xi S 904 117) → (Xi T8 904 69 = Xi S 904 69) → (Xi T8 904 70 = Xi S 904 70) → (Xi T8 904 71 = Xi S 904 71) → (Xi T8 904 72 = Xi S 904 72) → (Xi T8 904 73 = Xi S 904 73) → (Xi T8 904 74 = Xi S 904 74) → (Xi T8 904 78 = Xi S 904 78) → (Xi T8 904 81 = Xi S 904 81) → (Xi T8 904 94 = Xi S 904 94) → (Xi T8 904 98 = Xi S 904 98) → (Xi T8 904 60 = Xi S 904 60) → (Xi T8 904 106 = 0) → (Xi T8 904 108 = 0) → (Xi T8 904 115 = -1) → (Xi T8 904 116 = -1) → (SNQ T8 n) → (RDT T8) → (KQL T8 S (Xi S 904 117)) → (Xi S 904 70 = 2) → Rl lay0 (d + 12) m_mo_asked 156 [(0, .ref 904)] [] T8 (Q_mo_asked S n dd first) := by
  have hF : FR md_mo_asked S S := FR.rf
  have w1 : 0 ≤ Xi S 904 106 ∧ Xi S 904 106 ≤ 9 := hH.c _ _
  have w2 : 0 ≤ Xi S 904 108 ∧ Xi S 904 108 ≤ 2600 := hH.c _ _
  have w3 : -1 ≤ Xi S 904 115 ∧ Xi S 904 115 ≤ 15 := hH.c _ _
  have w4 : -1 ≤ Xi S 904 116 ∧ Xi S 904 116 ≤ 15 := hH.c _ _
  have w5 : 0 ≤ Xi S 904 117 ∧ Xi S 904 117 ≤ 480 := hH.c _ _
  have w6 : 0 ≤ Xi S 904 23 ∧ Xi S 904 23 ≤ 24 := hH.c _ _
  have w7 : 0 ≤ Xi S 904 41 ∧ Xi S 904 41 ≤ 6 := hH.c _ _
  have w8 : -1 ≤ Xi S 904 60 ∧ Xi S 904 60 ≤ 23 := hH.c _ _
  have w9 : 0 ≤ Xi S 904 69 ∧ Xi S 904 69 ≤ 2600 := hH.c _ _
  have w10 : 0 ≤ Xi S 904 70 ∧ Xi S 904 70 ≤ 20 := hH.c _ _
  have w11 : 0 ≤ Xi S 904 71 ∧ Xi S 904 71 ≤ 2600 := hH.c _ _
  have w12 : 0 ≤ Xi S 904 72 ∧ Xi S 904 72 ≤ 2600 := hH.c _ _
  have w13 : 0 ≤ Xi S 904 73 ∧ Xi S 904 73 ≤ 5 := hH.c _ _
  have w14 : 0 ≤ Xi S 904 74 ∧ Xi S 904 74 ≤ 2600 := hH.c _ _
  have w15 : -2 ≤ Xi S 904 78 ∧ Xi S 904 78 ≤ 5010 := hH.c _ _
  have w16 : 0 ≤ Xi S 904 81 ∧ Xi S 904 81 ≤ 5010 := hH.c _ _
  have w17 : 0 ≤ Xi S 904 94 ∧ Xi S 904 94 ≤ 1700 := hH.c _ _
  have w18 : 0 ≤ Xi S 904 98 ∧ Xi S 904 98 ≤ 1700 := hH.c _ _
  have w19 : 0 ≤ Xi S 951 0 ∧ Xi S 951 0 ≤ 5010 := hH.c _ _
  have w20 : 0 ≤ Xi S 951 1 ∧ Xi S 951 1 ≤ 5010 := hH.c _ _
  have hn5 := hT.1
  have hc69 : 0 ≤ Xi S 904 69 ∧ Xi S 904 69 ≤ 2600 := hH.c _ _
  have hc70 : 0 ≤ Xi S 904 70 ∧ Xi S 904 70 ≤ 20 := hH.c _ _
  have hc23 : 0 ≤ Xi S 904 23 ∧ Xi S 904 23 ≤ 24 := hH.c _ _
  have hrf : ∀ r : Int, 0 ≤ r → r < Xi S 904 69 → Xi S 950 r.toNat + Xi S 951 r.toNat ≤ n ∧ 1 ≤ Xi S 951 r.toNat := fun r a b => hv r.toNat (by omega)
  have hq0 : KQL S S (Xi S 904 117) := KQL.rf
  intro T8 hHT8 hFT8 w401 w402 w403 w404 w405 w406 w407 w408 w409 w410 w411 w412 w413 w414 w415 w416 q20 r20 K20 w417
  have w418 : Xi T8 904 102 = Xi S 904 102 := hFT8.x _ _ rfl
  have w419 : Xi T8 904 103 = Xi S 904 103 := hFT8.x _ _ rfl
  have w420 : Xi T8 904 16 = Xi S 904 16 := hFT8.x _ _ rfl
  have w421 : Xi T8 904 18 = Xi S 904 18 := hFT8.x _ _ rfl
  have w422 : Xi T8 904 19 = Xi S 904 19 := hFT8.x _ _ rfl
  have w423 : Xi T8 904 23 = Xi S 904 23 := hFT8.x _ _ rfl
  have w424 : Xi T8 904 30 = Xi S 904 30 := hFT8.x _ _ rfl
  have w425 : Xi T8 904 41 = Xi S 904 41 := hFT8.x _ _ rfl
  have w426 : Xi T8 904 47 = Xi S 904 47 := hFT8.x _ _ rfl
  have w427 : Xi T8 904 49 = Xi S 904 49 := hFT8.x _ _ rfl
  have w428 : Xi T8 904 55 = Xi S 904 55 := hFT8.x _ _ rfl
  have w429 : Xi T8 904 60 = Xi S 904 60 := hFT8.x _ _ rfl
  have w430 : Xi T8 904 69 = Xi S 904 69 := hFT8.x _ _ rfl
  have w431 : Xi T8 904 70 = Xi S 904 70 := hFT8.x _ _ rfl
  have w432 : Xi T8 904 71 = Xi S 904 71 := hFT8.x _ _ rfl
  have w433 : Xi T8 904 72 = Xi S 904 72 := hFT8.x _ _ rfl
  have w434 : Xi T8 904 73 = Xi S 904 73 := hFT8.x _ _ rfl
  have w435 : Xi T8 904 74 = Xi S 904 74 := hFT8.x _ _ rfl
  have w436 : Xi T8 904 78 = Xi S 904 78 := hFT8.x _ _ rfl
  have w437 : Xi T8 904 81 = Xi S 904 81 := hFT8.x _ _ rfl
  have w438 : Xi T8 904 94 = Xi S 904 94 := hFT8.x _ _ rfl
  have w439 : Xi T8 904 98 = Xi S 904 98 := hFT8.x _ _ rfl
  have w440 : Xi T8 951 0 = Xi S 951 0 := hFT8.x _ _ rfl
  have w441 : Xi T8 951 1 = Xi S 951 1 := hFT8.x _ _ rfl
  have w442 : 0 ≤ Xi T8 904 106 ∧ Xi T8 904 106 ≤ 9 := hHT8.c _ _
  have w443 : 0 ≤ Xi T8 904 108 ∧ Xi T8 904 108 ≤ 2600 := hHT8.c _ _
  have w444 : -1 ≤ Xi T8 904 115 ∧ Xi T8 904 115 ≤ 15 := hHT8.c _ _
  have w445 : -1 ≤ Xi T8 904 116 ∧ Xi T8 904 116 ≤ 15 := hHT8.c _ _
  have w446 : 0 ≤ Xi T8 904 117 ∧ Xi T8 904 117 ≤ 480 := hHT8.c _ _
  have w447 : -1 ≤ Xi T8 904 60 ∧ Xi T8 904 60 ≤ 23 := hHT8.c _ _
  have w448 : 0 ≤ Xi T8 904 69 ∧ Xi T8 904 69 ≤ 2600 := hHT8.c _ _
  have w449 : 0 ≤ Xi T8 904 70 ∧ Xi T8 904 70 ≤ 20 := hHT8.c _ _
  have w450 : 0 ≤ Xi T8 904 71 ∧ Xi T8 904 71 ≤ 2600 := hHT8.c _ _
  have w451 : 0 ≤ Xi T8 904 72 ∧ Xi T8 904 72 ≤ 2600 := hHT8.c _ _
  have w452 : 0 ≤ Xi T8 904 73 ∧ Xi T8 904 73 ≤ 5 := hHT8.c _ _
  have w453 : 0 ≤ Xi T8 904 74 ∧ Xi T8 904 74 ≤ 2600 := hHT8.c _ _
  have w454 : -2 ≤ Xi T8 904 78 ∧ Xi T8 904 78 ≤ 5010 := hHT8.c _ _
  have w455 : 0 ≤ Xi T8 904 81 ∧ Xi T8 904 81 ≤ 5010 := hHT8.c _ _
  have w456 : 0 ≤ Xi T8 904 94 ∧ Xi T8 904 94 ≤ 1700 := hHT8.c _ _
  have w457 : 0 ≤ Xi T8 904 98 ∧ Xi T8 904 98 ≤ 1700 := hHT8.c _ _
  refine l_aload_n rfl rfl ?_
  have s156 := q20.2.2.1 (by omega)
  have v156 := hap.1 (by omega) (by omega)
  have w156 := hap.2.2.2.2 (by omega)
  have z156_0 : Xi S 950 0 + Xi S 951 0 ≤ n := (hv 0 (by omega)).1
  have z156_1 : Xi S 950 1 + Xi S 951 1 ≤ n := (hv 1 (by omega)).1
  refine l_aload_n rfl rfl ?_
  refine l_iconst rfl ?_
  have w458 : 0 ≤ Xi T8 904 106 ∧ Xi T8 904 106 ≤ 9 := hHT8.c _ _
  have w459 : 0 ≤ Xi T8 904 108 ∧ Xi T8 904 108 ≤ 2600 := hHT8.c _ _
  have w460 : -1 ≤ Xi T8 904 115 ∧ Xi T8 904 115 ≤ 15 := hHT8.c _ _
  have w461 : -1 ≤ Xi T8 904 116 ∧ Xi T8 904 116 ≤ 15 := hHT8.c _ _
  have w462 : 0 ≤ Xi T8 904 117 ∧ Xi T8 904 117 ≤ 480 := hHT8.c _ _
  have w463 : 0 ≤ Xi T8 904 142 ∧ Xi T8 904 142 ≤ 4 := hHT8.c _ _
  have w464 : 0 ≤ Xi T8 904 16 ∧ Xi T8 904 16 ≤ 16 := hHT8.c _ _
  have w465 : -1 ≤ Xi T8 904 60 ∧ Xi T8 904 60 ≤ 23 := hHT8.c _ _
  have w466 : 0 ≤ Xi T8 904 69 ∧ Xi T8 904 69 ≤ 2600 := hHT8.c _ _
  have w467 : 0 ≤ Xi T8 904 70 ∧ Xi T8 904 70 ≤ 20 := hHT8.c _ _
  have w468 : 0 ≤ Xi T8 904 71 ∧ Xi T8 904 71 ≤ 2600 := hHT8.c _ _
  have w469 : 0 ≤ Xi T8 904 72 ∧ Xi T8 904 72 ≤ 2600 := hHT8.c _ _
  have w470 : 0 ≤ Xi T8 904 73 ∧ Xi T8 904 73 ≤ 5 := hHT8.c _ _
  have w471 : 0 ≤ Xi T8 904 74 ∧ Xi T8 904 74 ≤ 2600 := hHT8.c _ _
  have w472 : -2 ≤ Xi T8 904 78 ∧ Xi T8 904 78 ≤ 5010 := hHT8.c _ _
  have w473 : 0 ≤ Xi T8 904 81 ∧ Xi T8 904 81 ≤ 5010 := hHT8.c _ _
  have w474 : 0 ≤ Xi T8 904 94 ∧ Xi T8 904 94 ≤ 1700 := hHT8.c _ _
  have w475 : 0 ≤ Xi T8 904 98 ∧ Xi T8 904 98 ≤ 1700 := hHT8.c _ _
  refine l_callV rfl rfl rfl (t_mo_kindOfRun__2 hHT8 n 0 ⟨by omega, by omega⟩ (by first | assumption | exact (TK_FR hFT8 rfl (by assumption : TK S _))) (by first | assumption | exact (RNV_FR hFT8 rfl (by assumption : RNV S _))) (by first | assumption | omega) (by first | assumption | exact (LXM_FR hFT8 rfl (by assumption : LXM S))) _) ?_
  rintro _ T9 ⟨hHT9, w481, z480, rfl, w480, w476, w477, w478, w479⟩
  have hFT9 : FR md_mo_asked S T9 := FR.tr hFT8 w481 rfl
  show Rl _ _ _ _ _ [iv z480, .ref 904] _ _
  have r159 : z480 = rnR S 0 0 := (by assumption : z480 = rnR T8 _ _).trans (rnR_FR hFT8 rfl rfl)
  refine l_pfi rfl rfl rfl rfl ?_
  obtain ⟨U10, eU10⟩ : ∃ T : sS, T = uI T9 904 115 (Int32.ofInt z480) := ⟨_, rfl⟩
  rw [← eU10]
  have hHU10 : HI U10 := by rw [eU10]; exact HI_w hHT9 (show -1 ≤ z480 by omega) (show z480 ≤ 15 by omega)
  have hFU10 : FR md_mo_asked S U10 := by rw [eU10]; exact FR.wI hFT9 (mdf_i (r := (904, 905, 115, 116)) (List.mem_of_getElem? (i := 9) rfl) (inR_i (by omega) (by omega) (by omega) (by omega)))
  have w482 : Xi U10 904 115 = z480 := by rw [eU10]; exact Xi_same (by unfold rg; omega)
  refine l_aload_n rfl rfl ?_
  refine l_iconst rfl ?_
  refine l_aload_n rfl rfl ?_
  refine l_gfi rfl rfl rfl rfl rfl ?_
  have w483 : (Xi U10 904 23) = (Xi T8 904 23) := (show Xi U10 904 23 = Xi T9 904 23 from by rw [eU10]; exact Xi_ne (by omega)).trans ((show Xi T9 904 23 = Xi T8 904 23 from w481.x _ _ rfl))
  rw [w483]
  refine l_bipush rfl rfl ?_
  have w484 : Xi U10 904 106 = Xi T9 904 106 := (show Xi U10 904 106 = Xi T9 904 106 from by rw [eU10]; exact Xi_ne (by omega))
  have w485 : 0 ≤ Xi T9 904 106 ∧ Xi T9 904 106 ≤ 9 := hHT9.c _ _
  have w486 : Xi U10 904 108 = Xi T8 904 108 := (show Xi U10 904 108 = Xi T9 904 108 from by rw [eU10]; exact Xi_ne (by omega)).trans ((show Xi T9 904 108 = Xi T8 904 108 from w481.x _ _ rfl))
  have w487 : 0 ≤ Xi T8 904 108 ∧ Xi T8 904 108 ≤ 2600 := hHT8.c _ _
  have w488 : Xi U10 904 109 = Xi T8 904 109 := (show Xi U10 904 109 = Xi T9 904 109 from by rw [eU10]; exact Xi_ne (by omega)).trans ((show Xi T9 904 109 = Xi T8 904 109 from w481.x _ _ rfl))
  have w489 : -1 ≤ Xi U10 904 115 ∧ Xi U10 904 115 ≤ 15 := hHU10.c _ _
  have w490 : Xi U10 904 116 = Xi T8 904 116 := (show Xi U10 904 116 = Xi T9 904 116 from by rw [eU10]; exact Xi_ne (by omega)).trans ((show Xi T9 904 116 = Xi T8 904 116 from w481.x _ _ rfl))
  have w491 : -1 ≤ Xi T8 904 116 ∧ Xi T8 904 116 ≤ 15 := hHT8.c _ _
  have w492 : Xi U10 904 117 = Xi T8 904 117 := (show Xi U10 904 117 = Xi T9 904 117 from by rw [eU10]; exact Xi_ne (by omega)).trans ((show Xi T9 904 117 = Xi T8 904 117 from w481.x _ _ rfl))
  have w493 : 0 ≤ Xi T8 904 117 ∧ Xi T8 904 117 ≤ 480 := hHT8.c _ _
  have w494 : Xi U10 904 142 = Xi T8 904 142 := (show Xi U10 904 142 = Xi T9 904 142 from by rw [eU10]; exact Xi_ne (by omega)).trans ((show Xi T9 904 142 = Xi T8 904 142 from w481.x _ _ rfl))
  have w495 : 0 ≤ Xi T8 904 142 ∧ Xi T8 904 142 ≤ 4 := hHT8.c _ _
  have w496 : Xi U10 904 60 = Xi T8 904 60 := (show Xi U10 904 60 = Xi T9 904 60 from by rw [eU10]; exact Xi_ne (by omega)).trans ((show Xi T9 904 60 = Xi T8 904 60 from w481.x _ _ rfl))
  have w497 : -1 ≤ Xi T8 904 60 ∧ Xi T8 904 60 ≤ 23 := hHT8.c _ _
  have w498 : Xi U10 904 69 = Xi T8 904 69 := (show Xi U10 904 69 = Xi T9 904 69 from by rw [eU10]; exact Xi_ne (by omega)).trans ((show Xi T9 904 69 = Xi T8 904 69 from w481.x _ _ rfl))
  have w499 : 0 ≤ Xi T8 904 69 ∧ Xi T8 904 69 ≤ 2600 := hHT8.c _ _
  have w500 : Xi U10 904 70 = Xi T8 904 70 := (show Xi U10 904 70 = Xi T9 904 70 from by rw [eU10]; exact Xi_ne (by omega)).trans ((show Xi T9 904 70 = Xi T8 904 70 from w481.x _ _ rfl))
  have w501 : 0 ≤ Xi T8 904 70 ∧ Xi T8 904 70 ≤ 20 := hHT8.c _ _
  have w502 : Xi U10 904 71 = Xi T8 904 71 := (show Xi U10 904 71 = Xi T9 904 71 from by rw [eU10]; exact Xi_ne (by omega)).trans ((show Xi T9 904 71 = Xi T8 904 71 from w481.x _ _ rfl))
  have w503 : 0 ≤ Xi T8 904 71 ∧ Xi T8 904 71 ≤ 2600 := hHT8.c _ _
  have w504 : Xi U10 904 72 = Xi T8 904 72 := (show Xi U10 904 72 = Xi T9 904 72 from by rw [eU10]; exact Xi_ne (by omega)).trans ((show Xi T9 904 72 = Xi T8 904 72 from w481.x _ _ rfl))
  have w505 : 0 ≤ Xi T8 904 72 ∧ Xi T8 904 72 ≤ 2600 := hHT8.c _ _
  have w506 : Xi U10 904 73 = Xi T8 904 73 := (show Xi U10 904 73 = Xi T9 904 73 from by rw [eU10]; exact Xi_ne (by omega)).trans ((show Xi T9 904 73 = Xi T8 904 73 from w481.x _ _ rfl))
  have w507 : 0 ≤ Xi T8 904 73 ∧ Xi T8 904 73 ≤ 5 := hHT8.c _ _
  have w508 : Xi U10 904 74 = Xi T8 904 74 := (show Xi U10 904 74 = Xi T9 904 74 from by rw [eU10]; exact Xi_ne (by omega)).trans ((show Xi T9 904 74 = Xi T8 904 74 from w481.x _ _ rfl))
  have w509 : 0 ≤ Xi T8 904 74 ∧ Xi T8 904 74 ≤ 2600 := hHT8.c _ _
  have w510 : Xi U10 904 78 = Xi T8 904 78 := (show Xi U10 904 78 = Xi T9 904 78 from by rw [eU10]; exact Xi_ne (by omega)).trans ((show Xi T9 904 78 = Xi T8 904 78 from w481.x _ _ rfl))
  have w511 : -2 ≤ Xi T8 904 78 ∧ Xi T8 904 78 ≤ 5010 := hHT8.c _ _
  have w512 : Xi U10 904 81 = Xi T8 904 81 := (show Xi U10 904 81 = Xi T9 904 81 from by rw [eU10]; exact Xi_ne (by omega)).trans ((show Xi T9 904 81 = Xi T8 904 81 from w481.x _ _ rfl))
  have w513 : 0 ≤ Xi T8 904 81 ∧ Xi T8 904 81 ≤ 5010 := hHT8.c _ _
  have w514 : Xi U10 904 94 = Xi T8 904 94 := (show Xi U10 904 94 = Xi T9 904 94 from by rw [eU10]; exact Xi_ne (by omega)).trans ((show Xi T9 904 94 = Xi T8 904 94 from w481.x _ _ rfl))
  have w515 : 0 ≤ Xi T8 904 94 ∧ Xi T8 904 94 ≤ 1700 := hHT8.c _ _
  have w516 : Xi U10 904 98 = Xi T8 904 98 := (show Xi U10 904 98 = Xi T9 904 98 from by rw [eU10]; exact Xi_ne (by omega)).trans ((show Xi T9 904 98 = Xi T8 904 98 from w481.x _ _ rfl))
  have w517 : 0 ≤ Xi T8 904 98 ∧ Xi T8 904 98 ≤ 1700 := hHT8.c _ _
  refine l_callV rfl rfl rfl (t_mo_mustBeNew__2 hHU10 n 1 (Xi T8 904 23) 24 ⟨by omega, by omega⟩ ⟨by omega, by omega⟩ ⟨by omega, by omega⟩ (by first | assumption | exact (TK_FR hFU10 rfl (by assumption : TK S _))) (by first | assumption | exact (RNV_FR hFU10 rfl (by assumption : RNV S _))) (by first | assumption | omega) (by first | assumption | exact fun k hk => absurd hk (by omega) | exact (NWV_FR (FR_e eU10) rfl (NWV_FR w481 rfl (by assumption : NWV T8)))) (by first | assumption | omega) _) ?_
  rintro _ T11 ⟨hHT11, w523, rfl, w518, g173, w519, w520, w521⟩
  have hFT11 : FR md_mo_asked S T11 := FR.tr hFU10 w523 rfl
  show Rl _ _ _ _ _ [] _ _
  have G173 : Xi T11 904 106 = 0 → Xi S 904 23 < 24 ∧ Xi S 951 1 ≤ 3 := fun q => (by have t := g173 q; have u := t.2.1; rw [(hFU10.cx 951 rfl _).1] at u; have v : Xi U10 904 23 = Xi S 904 23 := hFU10.x 904 23 rfl; exact ⟨by omega, u⟩)
  refine l_aload_n rfl rfl ?_
  have w524 : 0 ≤ Xi T11 904 106 ∧ Xi T11 904 106 ≤ 9 := hHT11.c _ _
  have w525 : 0 ≤ Xi T11 904 108 ∧ Xi T11 904 108 ≤ 2600 := hHT11.c _ _
  have w526 : Xi T11 904 109 = Xi T8 904 109 := (show Xi T11 904 109 = Xi U10 904 109 from w523.x _ _ rfl).trans ( (show Xi U10 904 109 = Xi T9 904 109 from by rw [eU10]; exact Xi_ne (by omega)).trans ((show Xi T9 904 109 = Xi T8 904 109 from w481.x _ _ rfl)))
  have w527 : Xi T11 904 115 = Xi U10 904 115 := (show Xi T11 904 115 = Xi U10 904 115 from w523.x _ _ rfl)
  have w528 : -1 ≤ Xi U10 904 115 ∧ Xi U10 904 115 ≤ 15 := hHU10.c _ _
  have w529 : Xi T11 904 116 = Xi T8 904 116 := (show Xi T11 904 116 = Xi U10 904 116 from w523.x _ _ rfl).trans ( (show Xi U10 904 116 = Xi T9 904 116 from by rw [eU10]; exact Xi_ne (by omega)).trans ((show Xi T9 904 116 = Xi T8 904 116 from w481.x _ _ rfl)))
  have w530 : -1 ≤ Xi T8 904 116 ∧ Xi T8 904 116 ≤ 15 := hHT8.c _ _
  have w531 : Xi T11 904 117 = Xi T8 904 117 := (show Xi T11 904 117 = Xi U10 904 117 from w523.x _ _ rfl).trans ( (show Xi U10 904 117 = Xi T9 904 117 from by rw [eU10]; exact Xi_ne (by omega)).trans ((show Xi T9 904 117 = Xi T8 904 117 from w481.x _ _ rfl)))
  have w532 : 0 ≤ Xi T8 904 117 ∧ Xi T8 904 117 ≤ 480 := hHT8.c _ _
  have w533 : Xi T11 904 142 = Xi T8 904 142 := (show Xi T11 904 142 = Xi U10 904 142 from w523.x _ _ rfl).trans ( (show Xi U10 904 142 = Xi T9 904 142 from by rw [eU10]; exact Xi_ne (by omega)).trans ((show Xi T9 904 142 = Xi T8 904 142 from w481.x _ _ rfl)))
  have w534 : 0 ≤ Xi T8 904 142 ∧ Xi T8 904 142 ≤ 4 := hHT8.c _ _
  have w535 : Xi T11 904 60 = Xi T8 904 60 := (show Xi T11 904 60 = Xi U10 904 60 from w523.x _ _ rfl).trans ( (show Xi U10 904 60 = Xi T9 904 60 from by rw [eU10]; exact Xi_ne (by omega)).trans ((show Xi T9 904 60 = Xi T8 904 60 from w481.x _ _ rfl)))
  have w536 : -1 ≤ Xi T8 904 60 ∧ Xi T8 904 60 ≤ 23 := hHT8.c _ _
  have w537 : Xi T11 904 69 = Xi T8 904 69 := (show Xi T11 904 69 = Xi U10 904 69 from w523.x _ _ rfl).trans ( (show Xi U10 904 69 = Xi T9 904 69 from by rw [eU10]; exact Xi_ne (by omega)).trans ((show Xi T9 904 69 = Xi T8 904 69 from w481.x _ _ rfl)))
  have w538 : 0 ≤ Xi T8 904 69 ∧ Xi T8 904 69 ≤ 2600 := hHT8.c _ _
  have w539 : Xi T11 904 70 = Xi T8 904 70 := (show Xi T11 904 70 = Xi U10 904 70 from w523.x _ _ rfl).trans ( (show Xi U10 904 70 = Xi T9 904 70 from by rw [eU10]; exact Xi_ne (by omega)).trans ((show Xi T9 904 70 = Xi T8 904 70 from w481.x _ _ rfl)))
  have w540 : 0 ≤ Xi T8 904 70 ∧ Xi T8 904 70 ≤ 20 := hHT8.c _ _
  have w541 : Xi T11 904 71 = Xi T8 904 71 := (show Xi T11 904 71 = Xi U10 904 71 from w523.x _ _ rfl).trans ( (show Xi U10 904 71 = Xi T9 904 71 from by rw [eU10]; exact Xi_ne (by omega)).trans ((show Xi T9 904 71 = Xi T8 904 71 from w481.x _ _ rfl)))
  have w542 : 0 ≤ Xi T8 904 71 ∧ Xi T8 904 71 ≤ 2600 := hHT8.c _ _
  have w543 : Xi T11 904 72 = Xi T8 904 72 := (show Xi T11 904 72 = Xi U10 904 72 from w523.x _ _ rfl).trans ( (show Xi U10 904 72 = Xi T9 904 72 from by rw [eU10]; exact Xi_ne (by omega)).trans ((show Xi T9 904 72 = Xi T8 904 72 from w481.x _ _ rfl)))
  have w544 : 0 ≤ Xi T8 904 72 ∧ Xi T8 904 72 ≤ 2600 := hHT8.c _ _
  have w545 : Xi T11 904 73 = Xi T8 904 73 := (show Xi T11 904 73 = Xi U10 904 73 from w523.x _ _ rfl).trans ( (show Xi U10 904 73 = Xi T9 904 73 from by rw [eU10]; exact Xi_ne (by omega)).trans ((show Xi T9 904 73 = Xi T8 904 73 from w481.x _ _ rfl)))
  have w546 : 0 ≤ Xi T8 904 73 ∧ Xi T8 904 73 ≤ 5 := hHT8.c _ _
  have w547 : Xi T11 904 74 = Xi T8 904 74 := (show Xi T11 904 74 = Xi U10 904 74 from w523.x _ _ rfl).trans ( (show Xi U10 904 74 = Xi T9 904 74 from by rw [eU10]; exact Xi_ne (by omega)).trans ((show Xi T9 904 74 = Xi T8 904 74 from w481.x _ _ rfl)))
  have w548 : 0 ≤ Xi T8 904 74 ∧ Xi T8 904 74 ≤ 2600 := hHT8.c _ _
  have w549 : Xi T11 904 78 = Xi T8 904 78 := (show Xi T11 904 78 = Xi U10 904 78 from w523.x _ _ rfl).trans ( (show Xi U10 904 78 = Xi T9 904 78 from by rw [eU10]; exact Xi_ne (by omega)).trans ((show Xi T9 904 78 = Xi T8 904 78 from w481.x _ _ rfl)))
  have w550 : -2 ≤ Xi T8 904 78 ∧ Xi T8 904 78 ≤ 5010 := hHT8.c _ _
  have w551 : Xi T11 904 81 = Xi T8 904 81 := (show Xi T11 904 81 = Xi U10 904 81 from w523.x _ _ rfl).trans ( (show Xi U10 904 81 = Xi T9 904 81 from by rw [eU10]; exact Xi_ne (by omega)).trans ((show Xi T9 904 81 = Xi T8 904 81 from w481.x _ _ rfl)))
  have w552 : 0 ≤ Xi T8 904 81 ∧ Xi T8 904 81 ≤ 5010 := hHT8.c _ _
  have w553 : Xi T11 904 94 = Xi T8 904 94 := (show Xi T11 904 94 = Xi U10 904 94 from w523.x _ _ rfl).trans ( (show Xi U10 904 94 = Xi T9 904 94 from by rw [eU10]; exact Xi_ne (by omega)).trans ((show Xi T9 904 94 = Xi T8 904 94 from w481.x _ _ rfl)))
  have w554 : 0 ≤ Xi T8 904 94 ∧ Xi T8 904 94 ≤ 1700 := hHT8.c _ _
  have w555 : Xi T11 904 98 = Xi T8 904 98 := (show Xi T11 904 98 = Xi U10 904 98 from w523.x _ _ rfl).trans ( (show Xi U10 904 98 = Xi T9 904 98 from by rw [eU10]; exact Xi_ne (by omega)).trans ((show Xi T9 904 98 = Xi T8 904 98 from w481.x _ _ rfl)))
  have w556 : 0 ≤ Xi T8 904 98 ∧ Xi T8 904 98 ≤ 1700 := hHT8.c _ _
  refine l_callV rfl rfl rfl (t_mo_testsMeant hHT11 n (by first | assumption | exact (TK_FR hFT11 rfl (by assumption : TK S _))) (by first | assumption | exact (RNV_FR hFT11 rfl (by assumption : RNV S _))) (by first | assumption | exact (LXM_FR hFT11 rfl (by assumption : LXM S))) (by first | assumption | exact (ABV_FR hFT11 rfl (by assumption : ABV S))) (by first | assumption | exact (DCM_FR hFT11 rfl (by assumption : DCM S))) (by first | assumption | exact (TXK_FR hFT11 rfl (by assumption : TXK S _))) (TVA_FR hFT11 rfl (by rw [show Xi T11 904 94 = Xi S 904 94 by omega]; exact v156)) (by first | assumption | omega) _) ?_
  rintro _ T12 ⟨hHT12, w559, rfl, w557, tq177, kq177⟩
  have hFT12 : FR md_mo_asked S T12 := FR.tr hFT11 w559 rfl
  show Rl _ _ _ _ _ [] _ _
  have R177 : RDT T12 := rdt_keep (RDT_FR hHU10 w523 rfl rfl rfl (RDT_FR hHT9 (FR_e eU10) rfl rfl rfl (RDT_FR hHT8 w481 rfl rfl rfl (by assumption : RDT T8)))) hHT11 (GR_FR (by assumption : FR md_mo_testsMeant T11 T12) rfl GR.rf) ((by assumption : FR md_mo_testsMeant T11 T12).x 904 117 rfl) ((by assumption : FR md_mo_testsMeant T11 T12).x 904 125 rfl) ((by assumption : FR md_mo_testsMeant T11 T12).x 904 130 rfl) ((by assumption : FR md_mo_testsMeant T11 T12).x 904 23 rfl) (smk_r8 (by assumption : FR md_mo_testsMeant T11 T12) rfl) kq177 (KHL_FR (by assumption : FR md_mo_testsMeant T11 T12) rfl KHL.rf)
  have y177_69 : Xi T12 904 69 = Xi T8 904 69 := ((show Xi T12 904 69 = Xi T11 904 69 from w559.x _ _ rfl).trans ((show Xi T11 904 69 = Xi U10 904 69 from w523.x _ _ rfl).trans ((show Xi U10 904 69 = Xi T9 904 69 from by rw [eU10]; exact Xi_ne (by omega)).trans ((show Xi T9 904 69 = Xi T8 904 69 from w481.x _ _ rfl)))))
  have y177_70 : Xi T12 904 70 = Xi T8 904 70 := ((show Xi T12 904 70 = Xi T11 904 70 from w559.x _ _ rfl).trans ((show Xi T11 904 70 = Xi U10 904 70 from w523.x _ _ rfl).trans ((show Xi U10 904 70 = Xi T9 904 70 from by rw [eU10]; exact Xi_ne (by omega)).trans ((show Xi T9 904 70 = Xi T8 904 70 from w481.x _ _ rfl)))))
  have y177_71 : Xi T12 904 71 = Xi T8 904 71 := ((show Xi T12 904 71 = Xi T11 904 71 from w559.x _ _ rfl).trans ((show Xi T11 904 71 = Xi U10 904 71 from w523.x _ _ rfl).trans ((show Xi U10 904 71 = Xi T9 904 71 from by rw [eU10]; exact Xi_ne (by omega)).trans ((show Xi T9 904 71 = Xi T8 904 71 from w481.x _ _ rfl)))))
  have y177_72 : Xi T12 904 72 = Xi T8 904 72 := ((show Xi T12 904 72 = Xi T11 904 72 from w559.x _ _ rfl).trans ((show Xi T11 904 72 = Xi U10 904 72 from w523.x _ _ rfl).trans ((show Xi U10 904 72 = Xi T9 904 72 from by rw [eU10]; exact Xi_ne (by omega)).trans ((show Xi T9 904 72 = Xi T8 904 72 from w481.x _ _ rfl)))))
  have y177_73 : Xi T12 904 73 = Xi T8 904 73 := ((show Xi T12 904 73 = Xi T11 904 73 from w559.x _ _ rfl).trans ((show Xi T11 904 73 = Xi U10 904 73 from w523.x _ _ rfl).trans ((show Xi U10 904 73 = Xi T9 904 73 from by rw [eU10]; exact Xi_ne (by omega)).trans ((show Xi T9 904 73 = Xi T8 904 73 from w481.x _ _ rfl)))))
  have y177_74 : Xi T12 904 74 = Xi T8 904 74 := ((show Xi T12 904 74 = Xi T11 904 74 from w559.x _ _ rfl).trans ((show Xi T11 904 74 = Xi U10 904 74 from w523.x _ _ rfl).trans ((show Xi U10 904 74 = Xi T9 904 74 from by rw [eU10]; exact Xi_ne (by omega)).trans ((show Xi T9 904 74 = Xi T8 904 74 from w481.x _ _ rfl)))))
  have y177_78 : Xi T12 904 78 = Xi T8 904 78 := ((show Xi T12 904 78 = Xi T11 904 78 from w559.x _ _ rfl).trans ((show Xi T11 904 78 = Xi U10 904 78 from w523.x _ _ rfl).trans ((show Xi U10 904 78 = Xi T9 904 78 from by rw [eU10]; exact Xi_ne (by omega)).trans ((show Xi T9 904 78 = Xi T8 904 78 from w481.x _ _ rfl)))))
  have y177_81 : Xi T12 904 81 = Xi T8 904 81 := ((show Xi T12 904 81 = Xi T11 904 81 from w559.x _ _ rfl).trans ((show Xi T11 904 81 = Xi U10 904 81 from w523.x _ _ rfl).trans ((show Xi U10 904 81 = Xi T9 904 81 from by rw [eU10]; exact Xi_ne (by omega)).trans ((show Xi T9 904 81 = Xi T8 904 81 from w481.x _ _ rfl)))))
  have y177_94 : Xi T12 904 94 = Xi T8 904 94 := ((show Xi T12 904 94 = Xi T11 904 94 from w559.x _ _ rfl).trans ((show Xi T11 904 94 = Xi U10 904 94 from w523.x _ _ rfl).trans ((show Xi U10 904 94 = Xi T9 904 94 from by rw [eU10]; exact Xi_ne (by omega)).trans ((show Xi T9 904 94 = Xi T8 904 94 from w481.x _ _ rfl)))))
  have y177_98 : Xi T12 904 98 = Xi T8 904 98 := ((show Xi T12 904 98 = Xi T11 904 98 from w559.x _ _ rfl).trans ((show Xi T11 904 98 = Xi U10 904 98 from w523.x _ _ rfl).trans ((show Xi U10 904 98 = Xi T9 904 98 from by rw [eU10]; exact Xi_ne (by omega)).trans ((show Xi T9 904 98 = Xi T8 904 98 from w481.x _ _ rfl)))))
  have y177_60 : Xi T12 904 60 = Xi T8 904 60 := ((show Xi T12 904 60 = Xi T11 904 60 from w559.x _ _ rfl).trans ((show Xi T11 904 60 = Xi U10 904 60 from w523.x _ _ rfl).trans ((show Xi U10 904 60 = Xi T9 904 60 from by rw [eU10]; exact Xi_ne (by omega)).trans ((show Xi T9 904 60 = Xi T8 904 60 from w481.x _ _ rfl)))))
  have y177_117 : Xi T12 904 117 = Xi T8 904 117 := ((show Xi T12 904 117 = Xi T11 904 117 from w559.x _ _ rfl).trans ((show Xi T11 904 117 = Xi U10 904 117 from w523.x _ _ rfl).trans ((show Xi U10 904 117 = Xi T9 904 117 from by rw [eU10]; exact Xi_ne (by omega)).trans ((show Xi T9 904 117 = Xi T8 904 117 from w481.x _ _ rfl)))))
  have t7_177 : Xi T12 904 106 = 0 → Xi S 904 94 ≤ 6 ∧ TQA T12 True False (Xi S 904 117) (Xi S 904 94) := fun x => by have t := tq177 x; rw [show Xi T11 904 94 = Xi S 904 94 by omega, (show Xi T11 904 117 = Xi S 904 117 by omega)] at t; exact ⟨t.1, t.2.b (fun _ => trivial) (fun y => absurd y (by omega))⟩
  have u177_23 : Xi T12 904 23 = Xi S 904 23 := hFT12.x 904 23 rfl
  have u177_117 : Xi T12 904 117 = Xi S 904 117 := by omega
  have F177 : Xi T12 904 106 = 0 → DOK T12 := fun q => dok_2 (by omega) (⟨by have t := G173 (by omega); omega, by rw [(hFT12.cx 951 rfl _).1]; exact (G173 (by omega)).2, by rw [rnR_FR hFT12 rfl rfl]; omega, ⟨by omega, by have t := (t7_177 q).1; omega⟩, by rw [u177_117, show Xi T12 904 94 = Xi S 904 94 by omega]; exact (t7_177 q).2⟩)
  refine l_goto rfl rfl ?_
  refine l_return rfl rfl ?_
  have w560 : 0 ≤ Xi T12 904 106 ∧ Xi T12 904 106 ≤ 9 := hHT12.c _ _
  have w561 : Xi T12 904 108 = Xi T11 904 108 := (show Xi T12 904 108 = Xi T11 904 108 from w559.x _ _ rfl)
  have w562 : 0 ≤ Xi T11 904 108 ∧ Xi T11 904 108 ≤ 2600 := hHT11.c _ _
  have w563 : Xi T12 904 109 = Xi T8 904 109 := (show Xi T12 904 109 = Xi T11 904 109 from w559.x _ _ rfl).trans ( (show Xi T11 904 109 = Xi U10 904 109 from w523.x _ _ rfl).trans ( (show Xi U10 904 109 = Xi T9 904 109 from by rw [eU10]; exact Xi_ne (by omega)).trans ((show Xi T9 904 109 = Xi T8 904 109 from w481.x _ _ rfl))))
  have w564 : Xi T12 904 115 = Xi U10 904 115 := (show Xi T12 904 115 = Xi T11 904 115 from w559.x _ _ rfl).trans ((show Xi T11 904 115 = Xi U10 904 115 from w523.x _ _ rfl))
  have w565 : -1 ≤ Xi U10 904 115 ∧ Xi U10 904 115 ≤ 15 := hHU10.c _ _
  have w566 : Xi T12 904 116 = Xi T8 904 116 := (show Xi T12 904 116 = Xi T11 904 116 from w559.x _ _ rfl).trans ( (show Xi T11 904 116 = Xi U10 904 116 from w523.x _ _ rfl).trans ( (show Xi U10 904 116 = Xi T9 904 116 from by rw [eU10]; exact Xi_ne (by omega)).trans ((show Xi T9 904 116 = Xi T8 904 116 from w481.x _ _ rfl))))
  have w567 : -1 ≤ Xi T8 904 116 ∧ Xi T8 904 116 ≤ 15 := hHT8.c _ _
  have w568 : Xi T12 904 117 = Xi T8 904 117 := (show Xi T12 904 117 = Xi T11 904 117 from w559.x _ _ rfl).trans ( (show Xi T11 904 117 = Xi U10 904 117 from w523.x _ _ rfl).trans ( (show Xi U10 904 117 = Xi T9 904 117 from by rw [eU10]; exact Xi_ne (by omega)).trans ((show Xi T9 904 117 = Xi T8 904 117 from w481.x _ _ rfl))))
  have w569 : 0 ≤ Xi T8 904 117 ∧ Xi T8 904 117 ≤ 480 := hHT8.c _ _
  have w570 : Xi T12 904 142 = Xi T8 904 142 := (show Xi T12 904 142 = Xi T11 904 142 from w559.x _ _ rfl).trans ( (show Xi T11 904 142 = Xi U10 904 142 from w523.x _ _ rfl).trans ( (show Xi U10 904 142 = Xi T9 904 142 from by rw [eU10]; exact Xi_ne (by omega)).trans ((show Xi T9 904 142 = Xi T8 904 142 from w481.x _ _ rfl))))
  have w571 : 0 ≤ Xi T8 904 142 ∧ Xi T8 904 142 ≤ 4 := hHT8.c _ _
  have w572 : Xi T12 904 60 = Xi T8 904 60 := (show Xi T12 904 60 = Xi T11 904 60 from w559.x _ _ rfl).trans ( (show Xi T11 904 60 = Xi U10 904 60 from w523.x _ _ rfl).trans ( (show Xi U10 904 60 = Xi T9 904 60 from by rw [eU10]; exact Xi_ne (by omega)).trans ((show Xi T9 904 60 = Xi T8 904 60 from w481.x _ _ rfl))))
  have w573 : -1 ≤ Xi T8 904 60 ∧ Xi T8 904 60 ≤ 23 := hHT8.c _ _
  have w574 : Xi T12 904 69 = Xi T8 904 69 := (show Xi T12 904 69 = Xi T11 904 69 from w559.x _ _ rfl).trans ( (show Xi T11 904 69 = Xi U10 904 69 from w523.x _ _ rfl).trans ( (show Xi U10 904 69 = Xi T9 904 69 from by rw [eU10]; exact Xi_ne (by omega)).trans ((show Xi T9 904 69 = Xi T8 904 69 from w481.x _ _ rfl))))
  have w575 : 0 ≤ Xi T8 904 69 ∧ Xi T8 904 69 ≤ 2600 := hHT8.c _ _
  have w576 : Xi T12 904 70 = Xi T8 904 70 := (show Xi T12 904 70 = Xi T11 904 70 from w559.x _ _ rfl).trans ( (show Xi T11 904 70 = Xi U10 904 70 from w523.x _ _ rfl).trans ( (show Xi U10 904 70 = Xi T9 904 70 from by rw [eU10]; exact Xi_ne (by omega)).trans ((show Xi T9 904 70 = Xi T8 904 70 from w481.x _ _ rfl))))
  have w577 : 0 ≤ Xi T8 904 70 ∧ Xi T8 904 70 ≤ 20 := hHT8.c _ _
  have w578 : Xi T12 904 71 = Xi T8 904 71 := (show Xi T12 904 71 = Xi T11 904 71 from w559.x _ _ rfl).trans ( (show Xi T11 904 71 = Xi U10 904 71 from w523.x _ _ rfl).trans ( (show Xi U10 904 71 = Xi T9 904 71 from by rw [eU10]; exact Xi_ne (by omega)).trans ((show Xi T9 904 71 = Xi T8 904 71 from w481.x _ _ rfl))))
  have w579 : 0 ≤ Xi T8 904 71 ∧ Xi T8 904 71 ≤ 2600 := hHT8.c _ _
  have w580 : Xi T12 904 72 = Xi T8 904 72 := (show Xi T12 904 72 = Xi T11 904 72 from w559.x _ _ rfl).trans ( (show Xi T11 904 72 = Xi U10 904 72 from w523.x _ _ rfl).trans ( (show Xi U10 904 72 = Xi T9 904 72 from by rw [eU10]; exact Xi_ne (by omega)).trans ((show Xi T9 904 72 = Xi T8 904 72 from w481.x _ _ rfl))))
  have w581 : 0 ≤ Xi T8 904 72 ∧ Xi T8 904 72 ≤ 2600 := hHT8.c _ _
  have w582 : Xi T12 904 73 = Xi T8 904 73 := (show Xi T12 904 73 = Xi T11 904 73 from w559.x _ _ rfl).trans ( (show Xi T11 904 73 = Xi U10 904 73 from w523.x _ _ rfl).trans ( (show Xi U10 904 73 = Xi T9 904 73 from by rw [eU10]; exact Xi_ne (by omega)).trans ((show Xi T9 904 73 = Xi T8 904 73 from w481.x _ _ rfl))))
  have w583 : 0 ≤ Xi T8 904 73 ∧ Xi T8 904 73 ≤ 5 := hHT8.c _ _
  have w584 : Xi T12 904 74 = Xi T8 904 74 := (show Xi T12 904 74 = Xi T11 904 74 from w559.x _ _ rfl).trans ( (show Xi T11 904 74 = Xi U10 904 74 from w523.x _ _ rfl).trans ( (show Xi U10 904 74 = Xi T9 904 74 from by rw [eU10]; exact Xi_ne (by omega)).trans ((show Xi T9 904 74 = Xi T8 904 74 from w481.x _ _ rfl))))
  have w585 : 0 ≤ Xi T8 904 74 ∧ Xi T8 904 74 ≤ 2600 := hHT8.c _ _
  have w586 : Xi T12 904 78 = Xi T8 904 78 := (show Xi T12 904 78 = Xi T11 904 78 from w559.x _ _ rfl).trans ( (show Xi T11 904 78 = Xi U10 904 78 from w523.x _ _ rfl).trans ( (show Xi U10 904 78 = Xi T9 904 78 from by rw [eU10]; exact Xi_ne (by omega)).trans ((show Xi T9 904 78 = Xi T8 904 78 from w481.x _ _ rfl))))
  have w587 : -2 ≤ Xi T8 904 78 ∧ Xi T8 904 78 ≤ 5010 := hHT8.c _ _
  have w588 : Xi T12 904 81 = Xi T8 904 81 := (show Xi T12 904 81 = Xi T11 904 81 from w559.x _ _ rfl).trans ( (show Xi T11 904 81 = Xi U10 904 81 from w523.x _ _ rfl).trans ( (show Xi U10 904 81 = Xi T9 904 81 from by rw [eU10]; exact Xi_ne (by omega)).trans ((show Xi T9 904 81 = Xi T8 904 81 from w481.x _ _ rfl))))
  have w589 : 0 ≤ Xi T8 904 81 ∧ Xi T8 904 81 ≤ 5010 := hHT8.c _ _
  have w590 : Xi T12 904 94 = Xi T8 904 94 := (show Xi T12 904 94 = Xi T11 904 94 from w559.x _ _ rfl).trans ( (show Xi T11 904 94 = Xi U10 904 94 from w523.x _ _ rfl).trans ( (show Xi U10 904 94 = Xi T9 904 94 from by rw [eU10]; exact Xi_ne (by omega)).trans ((show Xi T9 904 94 = Xi T8 904 94 from w481.x _ _ rfl))))
  have w591 : 0 ≤ Xi T8 904 94 ∧ Xi T8 904 94 ≤ 1700 := hHT8.c _ _
  have w592 : Xi T12 904 98 = Xi T8 904 98 := (show Xi T12 904 98 = Xi T11 904 98 from w559.x _ _ rfl).trans ( (show Xi T11 904 98 = Xi U10 904 98 from w523.x _ _ rfl).trans ( (show Xi U10 904 98 = Xi T9 904 98 from by rw [eU10]; exact Xi_ne (by omega)).trans ((show Xi T9 904 98 = Xi T8 904 98 from w481.x _ _ rfl))))
  have w593 : 0 ≤ Xi T8 904 98 ∧ Xi T8 904 98 ≤ 1700 := hHT8.c _ _
  exact ⟨hHT12, hFT12, rfl, (by assumption), (by first | exact fun q => by assumption | assumption | exact fun q => (by assumption : RDT T12))⟩
set_option maxRecDepth 100000 in
set_option maxHeartbeats 8000000 in
theorem c183_mo_asked {S : sS} (hH : HI S) (n : Nat) (dd : Nat) (first : Int) (hfirst : 0 ≤ first ∧ first ≤ 5001) (hT : TK S n) (hv : RNV S n) (hM : LXM S) (hB : ABV S) (hC : DCM S) (hK : TXK S n) (hX : TXM S) (hq : SNQ S n) (hap : AP9 S n) (h94 : Xi S 904 94 ≤ 1668) (hRD : RDT S) (hPF : PF S) (hdt : Xi S 904 70 = 20 → first ≤ dd ∧ dd < n ∧ Xi S 907 dd = 46) (d : Nat) : ∀  (T13 : sS) (_ : HI T13) (_ : FR md_mo_asked S T13), (Xi T13 904 117 = Xi S 904 117) → (Xi T13 904 69 = Xi S 904 69) → (Xi T13 904 70 = Xi S 904 70) → (Xi T13 904 71 = Xi S 904 71) → (Xi T13 904 72 = Xi S 904 72) → (Xi T13 904 73 = Xi S 904 73) → (Xi T13 904 74 = Xi S 904 74) → (Xi T13 904 78 = Xi S 904 78) → (Xi T13 904 81 = Xi S 904 81) → (Xi T13 904 94 = Xi S 904 94) → (Xi T13 904 98 = Xi S 904 98) → (Xi T13 904 60 = Xi S 904 60) → (Xi T13 904 106 = 0) → (Xi T13 904 108 = 0) → (Xi T13 904 115 = -1) → (Xi T13 904 116 = -1) → (SNQ T13 n) → (RDT T13) → (KQL T13 S (Xi S 904 117)) → (Xi S 904 70 = 7) → Rl lay0 (d + 12) m_mo_asked 183 [(0, .ref 904)] [] T13 (Q_mo_asked S n dd first) := by
  have hF : FR md_mo_asked S S := FR.rf
  have w1 : 0 ≤ Xi S 904 106 ∧ Xi S 904 106 ≤ 9 := hH.c _ _
  have w2 : 0 ≤ Xi S 904 108 ∧ Xi S 904 108 ≤ 2600 := hH.c _ _
  have w3 : -1 ≤ Xi S 904 115 ∧ Xi S 904 115 ≤ 15 := hH.c _ _
  have w4 : -1 ≤ Xi S 904 116 ∧ Xi S 904 116 ≤ 15 := hH.c _ _
  have w5 : 0 ≤ Xi S 904 117 ∧ Xi S 904 117 ≤ 480 := hH.c _ _
  have w6 : 0 ≤ Xi S 904 23 ∧ Xi S 904 23 ≤ 24 := hH.c _ _
  have w7 : 0 ≤ Xi S 904 41 ∧ Xi S 904 41 ≤ 6 := hH.c _ _
  have w8 : -1 ≤ Xi S 904 60 ∧ Xi S 904 60 ≤ 23 := hH.c _ _
  have w9 : 0 ≤ Xi S 904 69 ∧ Xi S 904 69 ≤ 2600 := hH.c _ _
  have w10 : 0 ≤ Xi S 904 70 ∧ Xi S 904 70 ≤ 20 := hH.c _ _
  have w11 : 0 ≤ Xi S 904 71 ∧ Xi S 904 71 ≤ 2600 := hH.c _ _
  have w12 : 0 ≤ Xi S 904 72 ∧ Xi S 904 72 ≤ 2600 := hH.c _ _
  have w13 : 0 ≤ Xi S 904 73 ∧ Xi S 904 73 ≤ 5 := hH.c _ _
  have w14 : 0 ≤ Xi S 904 74 ∧ Xi S 904 74 ≤ 2600 := hH.c _ _
  have w15 : -2 ≤ Xi S 904 78 ∧ Xi S 904 78 ≤ 5010 := hH.c _ _
  have w16 : 0 ≤ Xi S 904 81 ∧ Xi S 904 81 ≤ 5010 := hH.c _ _
  have w17 : 0 ≤ Xi S 904 94 ∧ Xi S 904 94 ≤ 1700 := hH.c _ _
  have w18 : 0 ≤ Xi S 904 98 ∧ Xi S 904 98 ≤ 1700 := hH.c _ _
  have w19 : 0 ≤ Xi S 951 0 ∧ Xi S 951 0 ≤ 5010 := hH.c _ _
  have w20 : 0 ≤ Xi S 951 1 ∧ Xi S 951 1 ≤ 5010 := hH.c _ _
  have hn5 := hT.1
  have hc69 : 0 ≤ Xi S 904 69 ∧ Xi S 904 69 ≤ 2600 := hH.c _ _
  have hc70 : 0 ≤ Xi S 904 70 ∧ Xi S 904 70 ≤ 20 := hH.c _ _
  have hc23 : 0 ≤ Xi S 904 23 ∧ Xi S 904 23 ≤ 24 := hH.c _ _
  have hrf : ∀ r : Int, 0 ≤ r → r < Xi S 904 69 → Xi S 950 r.toNat + Xi S 951 r.toNat ≤ n ∧ 1 ≤ Xi S 951 r.toNat := fun r a b => hv r.toNat (by omega)
  have hq0 : KQL S S (Xi S 904 117) := KQL.rf
  intro T13 hHT13 hFT13 w594 w595 w596 w597 w598 w599 w600 w601 w602 w603 w604 w605 w606 w607 w608 w609 q20 r20 K20 w610
  have w611 : Xi T13 904 102 = Xi S 904 102 := hFT13.x _ _ rfl
  have w612 : Xi T13 904 103 = Xi S 904 103 := hFT13.x _ _ rfl
  have w613 : Xi T13 904 16 = Xi S 904 16 := hFT13.x _ _ rfl
  have w614 : Xi T13 904 18 = Xi S 904 18 := hFT13.x _ _ rfl
  have w615 : Xi T13 904 19 = Xi S 904 19 := hFT13.x _ _ rfl
  have w616 : Xi T13 904 23 = Xi S 904 23 := hFT13.x _ _ rfl
  have w617 : Xi T13 904 30 = Xi S 904 30 := hFT13.x _ _ rfl
  have w618 : Xi T13 904 41 = Xi S 904 41 := hFT13.x _ _ rfl
  have w619 : Xi T13 904 47 = Xi S 904 47 := hFT13.x _ _ rfl
  have w620 : Xi T13 904 49 = Xi S 904 49 := hFT13.x _ _ rfl
  have w621 : Xi T13 904 55 = Xi S 904 55 := hFT13.x _ _ rfl
  have w622 : Xi T13 904 60 = Xi S 904 60 := hFT13.x _ _ rfl
  have w623 : Xi T13 904 69 = Xi S 904 69 := hFT13.x _ _ rfl
  have w624 : Xi T13 904 70 = Xi S 904 70 := hFT13.x _ _ rfl
  have w625 : Xi T13 904 71 = Xi S 904 71 := hFT13.x _ _ rfl
  have w626 : Xi T13 904 72 = Xi S 904 72 := hFT13.x _ _ rfl
  have w627 : Xi T13 904 73 = Xi S 904 73 := hFT13.x _ _ rfl
  have w628 : Xi T13 904 74 = Xi S 904 74 := hFT13.x _ _ rfl
  have w629 : Xi T13 904 78 = Xi S 904 78 := hFT13.x _ _ rfl
  have w630 : Xi T13 904 81 = Xi S 904 81 := hFT13.x _ _ rfl
  have w631 : Xi T13 904 94 = Xi S 904 94 := hFT13.x _ _ rfl
  have w632 : Xi T13 904 98 = Xi S 904 98 := hFT13.x _ _ rfl
  have w633 : Xi T13 951 0 = Xi S 951 0 := hFT13.x _ _ rfl
  have w634 : Xi T13 951 1 = Xi S 951 1 := hFT13.x _ _ rfl
  have w635 : 0 ≤ Xi T13 904 106 ∧ Xi T13 904 106 ≤ 9 := hHT13.c _ _
  have w636 : 0 ≤ Xi T13 904 108 ∧ Xi T13 904 108 ≤ 2600 := hHT13.c _ _
  have w637 : -1 ≤ Xi T13 904 115 ∧ Xi T13 904 115 ≤ 15 := hHT13.c _ _
  have w638 : -1 ≤ Xi T13 904 116 ∧ Xi T13 904 116 ≤ 15 := hHT13.c _ _
  have w639 : 0 ≤ Xi T13 904 117 ∧ Xi T13 904 117 ≤ 480 := hHT13.c _ _
  have w640 : -1 ≤ Xi T13 904 60 ∧ Xi T13 904 60 ≤ 23 := hHT13.c _ _
  have w641 : 0 ≤ Xi T13 904 69 ∧ Xi T13 904 69 ≤ 2600 := hHT13.c _ _
  have w642 : 0 ≤ Xi T13 904 70 ∧ Xi T13 904 70 ≤ 20 := hHT13.c _ _
  have w643 : 0 ≤ Xi T13 904 71 ∧ Xi T13 904 71 ≤ 2600 := hHT13.c _ _
  have w644 : 0 ≤ Xi T13 904 72 ∧ Xi T13 904 72 ≤ 2600 := hHT13.c _ _
  have w645 : 0 ≤ Xi T13 904 73 ∧ Xi T13 904 73 ≤ 5 := hHT13.c _ _
  have w646 : 0 ≤ Xi T13 904 74 ∧ Xi T13 904 74 ≤ 2600 := hHT13.c _ _
  have w647 : -2 ≤ Xi T13 904 78 ∧ Xi T13 904 78 ≤ 5010 := hHT13.c _ _
  have w648 : 0 ≤ Xi T13 904 81 ∧ Xi T13 904 81 ≤ 5010 := hHT13.c _ _
  have w649 : 0 ≤ Xi T13 904 94 ∧ Xi T13 904 94 ≤ 1700 := hHT13.c _ _
  have w650 : 0 ≤ Xi T13 904 98 ∧ Xi T13 904 98 ≤ 1700 := hHT13.c _ _
  refine l_aload_n rfl rfl ?_
  have s183 := q20.2.2.1 (by omega)
  have w651 : 0 ≤ Xi T13 904 106 ∧ Xi T13 904 106 ≤ 9 := hHT13.c _ _
  have w652 : 0 ≤ Xi T13 904 108 ∧ Xi T13 904 108 ≤ 2600 := hHT13.c _ _
  have w653 : -1 ≤ Xi T13 904 115 ∧ Xi T13 904 115 ≤ 15 := hHT13.c _ _
  have w654 : -1 ≤ Xi T13 904 116 ∧ Xi T13 904 116 ≤ 15 := hHT13.c _ _
  have w655 : 0 ≤ Xi T13 904 117 ∧ Xi T13 904 117 ≤ 480 := hHT13.c _ _
  have w656 : 0 ≤ Xi T13 904 142 ∧ Xi T13 904 142 ≤ 4 := hHT13.c _ _
  have w657 : 0 ≤ Xi T13 904 47 ∧ Xi T13 904 47 ≤ 8 := hHT13.c _ _
  have w658 : -1 ≤ Xi T13 904 60 ∧ Xi T13 904 60 ≤ 23 := hHT13.c _ _
  have w659 : 0 ≤ Xi T13 904 69 ∧ Xi T13 904 69 ≤ 2600 := hHT13.c _ _
  have w660 : 0 ≤ Xi T13 904 70 ∧ Xi T13 904 70 ≤ 20 := hHT13.c _ _
  have w661 : 0 ≤ Xi T13 904 71 ∧ Xi T13 904 71 ≤ 2600 := hHT13.c _ _
  have w662 : 0 ≤ Xi T13 904 72 ∧ Xi T13 904 72 ≤ 2600 := hHT13.c _ _
  have w663 : 0 ≤ Xi T13 904 73 ∧ Xi T13 904 73 ≤ 5 := hHT13.c _ _
  have w664 : 0 ≤ Xi T13 904 74 ∧ Xi T13 904 74 ≤ 2600 := hHT13.c _ _
  have w665 : -2 ≤ Xi T13 904 78 ∧ Xi T13 904 78 ≤ 5010 := hHT13.c _ _
  have w666 : 0 ≤ Xi T13 904 81 ∧ Xi T13 904 81 ≤ 5010 := hHT13.c _ _
  have w667 : 0 ≤ Xi T13 904 94 ∧ Xi T13 904 94 ≤ 1700 := hHT13.c _ _
  have w668 : 0 ≤ Xi T13 904 98 ∧ Xi T13 904 98 ≤ 1700 := hHT13.c _ _
  have w669 : 0 ≤ Xi T13 951 0 ∧ Xi T13 951 0 ≤ 5010 := hHT13.c _ _
  refine l_callV rfl rfl rfl (t_mo_askVerb hHT13 n (by first | assumption | exact (TK_FR hFT13 rfl (by assumption : TK S _))) (by first | assumption | exact (RNV_FR hFT13 rfl (by assumption : RNV S _))) (by first | assumption | exact (LXM_FR hFT13 rfl (by assumption : LXM S))) (by first | assumption | exact fun k hk => absurd hk (by omega) | exact (by assumption : NWV T13)) (by first | assumption | omega) _) ?_
  rintro _ T14 ⟨hHT14, w671, rfl, f184⟩
  have hFT14 : FR md_mo_asked S T14 := FR.tr hFT13 w671 rfl
  show Rl _ _ _ _ _ [] _ _
  have y184_69 : Xi T14 904 69 = Xi T13 904 69 := ((show Xi T14 904 69 = Xi T13 904 69 from w671.x _ _ rfl))
  have y184_70 : Xi T14 904 70 = Xi T13 904 70 := ((show Xi T14 904 70 = Xi T13 904 70 from w671.x _ _ rfl))
  have y184_71 : Xi T14 904 71 = Xi T13 904 71 := ((show Xi T14 904 71 = Xi T13 904 71 from w671.x _ _ rfl))
  have y184_72 : Xi T14 904 72 = Xi T13 904 72 := ((show Xi T14 904 72 = Xi T13 904 72 from w671.x _ _ rfl))
  have y184_73 : Xi T14 904 73 = Xi T13 904 73 := ((show Xi T14 904 73 = Xi T13 904 73 from w671.x _ _ rfl))
  have y184_74 : Xi T14 904 74 = Xi T13 904 74 := ((show Xi T14 904 74 = Xi T13 904 74 from w671.x _ _ rfl))
  have y184_78 : Xi T14 904 78 = Xi T13 904 78 := ((show Xi T14 904 78 = Xi T13 904 78 from w671.x _ _ rfl))
  have y184_81 : Xi T14 904 81 = Xi T13 904 81 := ((show Xi T14 904 81 = Xi T13 904 81 from w671.x _ _ rfl))
  have y184_94 : Xi T14 904 94 = Xi T13 904 94 := ((show Xi T14 904 94 = Xi T13 904 94 from w671.x _ _ rfl))
  have y184_98 : Xi T14 904 98 = Xi T13 904 98 := ((show Xi T14 904 98 = Xi T13 904 98 from w671.x _ _ rfl))
  have y184_60 : Xi T14 904 60 = Xi T13 904 60 := ((show Xi T14 904 60 = Xi T13 904 60 from w671.x _ _ rfl))
  have y184_117 : Xi T14 904 117 = Xi T13 904 117 := ((show Xi T14 904 117 = Xi T13 904 117 from w671.x _ _ rfl))
  have u184_47 : Xi T14 904 47 = Xi S 904 47 := hFT14.x 904 47 rfl
  have F184 : Xi T14 904 106 = 0 → DOK T14 := fun q => dok_7 (by omega) (⟨by have t := (f184 q).1; have u : Xi T13 904 47 = Xi S 904 47 := hFT13.x 904 47 rfl; omega, by rw [rnR_FR hFT14 rfl rfl]; have t := (f184 q).2.1; rw [rnR_FR hFT13 rfl rfl] at t; exact t, by rw [(hFT14.cx 951 rfl _).1, ← (hFT13.cx 951 rfl _).1]; exact (f184 q).2.2⟩)
  refine l_goto rfl rfl ?_
  refine l_return rfl rfl ?_
  have w672 : 0 ≤ Xi T14 904 106 ∧ Xi T14 904 106 ≤ 9 := hHT14.c _ _
  have w673 : Xi T14 904 108 = Xi T13 904 108 := (show Xi T14 904 108 = Xi T13 904 108 from w671.x _ _ rfl)
  have w674 : 0 ≤ Xi T13 904 108 ∧ Xi T13 904 108 ≤ 2600 := hHT13.c _ _
  have w675 : Xi T14 904 109 = Xi T13 904 109 := (show Xi T14 904 109 = Xi T13 904 109 from w671.x _ _ rfl)
  have w676 : Xi T14 904 115 = Xi T13 904 115 := (show Xi T14 904 115 = Xi T13 904 115 from w671.x _ _ rfl)
  have w677 : -1 ≤ Xi T13 904 115 ∧ Xi T13 904 115 ≤ 15 := hHT13.c _ _
  have w678 : Xi T14 904 116 = Xi T13 904 116 := (show Xi T14 904 116 = Xi T13 904 116 from w671.x _ _ rfl)
  have w679 : -1 ≤ Xi T13 904 116 ∧ Xi T13 904 116 ≤ 15 := hHT13.c _ _
  have w680 : Xi T14 904 117 = Xi T13 904 117 := (show Xi T14 904 117 = Xi T13 904 117 from w671.x _ _ rfl)
  have w681 : 0 ≤ Xi T13 904 117 ∧ Xi T13 904 117 ≤ 480 := hHT13.c _ _
  have w682 : Xi T14 904 142 = Xi T13 904 142 := (show Xi T14 904 142 = Xi T13 904 142 from w671.x _ _ rfl)
  have w683 : 0 ≤ Xi T13 904 142 ∧ Xi T13 904 142 ≤ 4 := hHT13.c _ _
  have w684 : Xi T14 904 60 = Xi T13 904 60 := (show Xi T14 904 60 = Xi T13 904 60 from w671.x _ _ rfl)
  have w685 : -1 ≤ Xi T13 904 60 ∧ Xi T13 904 60 ≤ 23 := hHT13.c _ _
  have w686 : Xi T14 904 69 = Xi T13 904 69 := (show Xi T14 904 69 = Xi T13 904 69 from w671.x _ _ rfl)
  have w687 : 0 ≤ Xi T13 904 69 ∧ Xi T13 904 69 ≤ 2600 := hHT13.c _ _
  have w688 : Xi T14 904 70 = Xi T13 904 70 := (show Xi T14 904 70 = Xi T13 904 70 from w671.x _ _ rfl)
  have w689 : 0 ≤ Xi T13 904 70 ∧ Xi T13 904 70 ≤ 20 := hHT13.c _ _
  have w690 : Xi T14 904 71 = Xi T13 904 71 := (show Xi T14 904 71 = Xi T13 904 71 from w671.x _ _ rfl)
  have w691 : 0 ≤ Xi T13 904 71 ∧ Xi T13 904 71 ≤ 2600 := hHT13.c _ _
  have w692 : Xi T14 904 72 = Xi T13 904 72 := (show Xi T14 904 72 = Xi T13 904 72 from w671.x _ _ rfl)
  have w693 : 0 ≤ Xi T13 904 72 ∧ Xi T13 904 72 ≤ 2600 := hHT13.c _ _
  have w694 : Xi T14 904 73 = Xi T13 904 73 := (show Xi T14 904 73 = Xi T13 904 73 from w671.x _ _ rfl)
  have w695 : 0 ≤ Xi T13 904 73 ∧ Xi T13 904 73 ≤ 5 := hHT13.c _ _
  have w696 : Xi T14 904 74 = Xi T13 904 74 := (show Xi T14 904 74 = Xi T13 904 74 from w671.x _ _ rfl)
  have w697 : 0 ≤ Xi T13 904 74 ∧ Xi T13 904 74 ≤ 2600 := hHT13.c _ _
  have w698 : Xi T14 904 78 = Xi T13 904 78 := (show Xi T14 904 78 = Xi T13 904 78 from w671.x _ _ rfl)
  have w699 : -2 ≤ Xi T13 904 78 ∧ Xi T13 904 78 ≤ 5010 := hHT13.c _ _
  have w700 : Xi T14 904 81 = Xi T13 904 81 := (show Xi T14 904 81 = Xi T13 904 81 from w671.x _ _ rfl)
  have w701 : 0 ≤ Xi T13 904 81 ∧ Xi T13 904 81 ≤ 5010 := hHT13.c _ _
  have w702 : Xi T14 904 94 = Xi T13 904 94 := (show Xi T14 904 94 = Xi T13 904 94 from w671.x _ _ rfl)
  have w703 : 0 ≤ Xi T13 904 94 ∧ Xi T13 904 94 ≤ 1700 := hHT13.c _ _
  have w704 : Xi T14 904 98 = Xi T13 904 98 := (show Xi T14 904 98 = Xi T13 904 98 from w671.x _ _ rfl)
  have w705 : 0 ≤ Xi T13 904 98 ∧ Xi T13 904 98 ≤ 1700 := hHT13.c _ _
  exact ⟨hHT14, hFT14, rfl, (by assumption), (by first | exact fun q => by assumption | assumption | exact fun q => (RDT_FR hHT13 w671 rfl rfl rfl (by assumption : RDT T13)))⟩
set_option maxRecDepth 100000 in
set_option maxHeartbeats 8000000 in
theorem c224_mo_asked {S : sS} (hH : HI S) (n : Nat) (dd : Nat) (first : Int) (hfirst : 0 ≤ first ∧ first ≤ 5001) (hT : TK S n) (hv : RNV S n) (hM : LXM S) (hB : ABV S) (hC : DCM S) (hK : TXK S n) (hX : TXM S) (hq : SNQ S n) (hap : AP9 S n) (h94 : Xi S 904 94 ≤ 1668) (hRD : RDT S) (hPF : PF S) (hdt : Xi S 904 70 = 20 → first ≤ dd ∧ dd < n ∧ Xi S 907 dd = 46) (d : Nat) : ∀  (T15 : sS) (_ : HI T15) (_ : FR md_mo_asked S T15), (Xi T15 904 117 = Xi S 904 117) → (Xi T15 904 60 = Xi S 904 60) → (Xi T15 904 69 = Xi S 904 69) → (Xi T15 904 70 = Xi S 904 70) → (Xi T15 904 71 = Xi S 904 71) → (Xi T15 904 72 = Xi S 904 72) → (Xi T15 904 73 = Xi S 904 73) → (Xi T15 904 74 = Xi S 904 74) → (Xi T15 904 78 = Xi S 904 78) → (Xi T15 904 81 = Xi S 904 81) → (Xi T15 904 94 = Xi S 904 94) → (Xi T15 904 98 = Xi S 904 98) → (NWV T15) → (RDT T15) → (Xi S 904 70 = 8) → (2 ≤ Xi S 904 69) → (Xi T15 904 108 = 0) → (Xi T15 904 106 = 0 → r2R S 0 0 1 ≠ -1 ∨ r2R S 0 2 3 ≠ -1) → Rl lay0 (d + 12) m_mo_asked 224 [(0, .ref 904)] [] T15 (Q_mo_asked S n dd first) := by
  have hF : FR md_mo_asked S S := FR.rf
  have w1 : 0 ≤ Xi S 904 106 ∧ Xi S 904 106 ≤ 9 := hH.c _ _
  have w2 : 0 ≤ Xi S 904 108 ∧ Xi S 904 108 ≤ 2600 := hH.c _ _
  have w3 : -1 ≤ Xi S 904 115 ∧ Xi S 904 115 ≤ 15 := hH.c _ _
  have w4 : -1 ≤ Xi S 904 116 ∧ Xi S 904 116 ≤ 15 := hH.c _ _
  have w5 : 0 ≤ Xi S 904 117 ∧ Xi S 904 117 ≤ 480 := hH.c _ _
  have w6 : 0 ≤ Xi S 904 23 ∧ Xi S 904 23 ≤ 24 := hH.c _ _
  have w7 : 0 ≤ Xi S 904 41 ∧ Xi S 904 41 ≤ 6 := hH.c _ _
  have w8 : -1 ≤ Xi S 904 60 ∧ Xi S 904 60 ≤ 23 := hH.c _ _
  have w9 : 0 ≤ Xi S 904 69 ∧ Xi S 904 69 ≤ 2600 := hH.c _ _
  have w10 : 0 ≤ Xi S 904 70 ∧ Xi S 904 70 ≤ 20 := hH.c _ _
  have w11 : 0 ≤ Xi S 904 71 ∧ Xi S 904 71 ≤ 2600 := hH.c _ _
  have w12 : 0 ≤ Xi S 904 72 ∧ Xi S 904 72 ≤ 2600 := hH.c _ _
  have w13 : 0 ≤ Xi S 904 73 ∧ Xi S 904 73 ≤ 5 := hH.c _ _
  have w14 : 0 ≤ Xi S 904 74 ∧ Xi S 904 74 ≤ 2600 := hH.c _ _
  have w15 : -2 ≤ Xi S 904 78 ∧ Xi S 904 78 ≤ 5010 := hH.c _ _
  have w16 : 0 ≤ Xi S 904 81 ∧ Xi S 904 81 ≤ 5010 := hH.c _ _
  have w17 : 0 ≤ Xi S 904 94 ∧ Xi S 904 94 ≤ 1700 := hH.c _ _
  have w18 : 0 ≤ Xi S 904 98 ∧ Xi S 904 98 ≤ 1700 := hH.c _ _
  have w19 : 0 ≤ Xi S 951 0 ∧ Xi S 951 0 ≤ 5010 := hH.c _ _
  have w20 : 0 ≤ Xi S 951 1 ∧ Xi S 951 1 ≤ 5010 := hH.c _ _
  have hn5 := hT.1
  have hc69 : 0 ≤ Xi S 904 69 ∧ Xi S 904 69 ≤ 2600 := hH.c _ _
  have hc70 : 0 ≤ Xi S 904 70 ∧ Xi S 904 70 ≤ 20 := hH.c _ _
  have hc23 : 0 ≤ Xi S 904 23 ∧ Xi S 904 23 ≤ 24 := hH.c _ _
  have hrf : ∀ r : Int, 0 ≤ r → r < Xi S 904 69 → Xi S 950 r.toNat + Xi S 951 r.toNat ≤ n ∧ 1 ≤ Xi S 951 r.toNat := fun r a b => hv r.toNat (by omega)
  have hq0 : KQL S S (Xi S 904 117) := KQL.rf
  intro T15 hHT15 hFT15 w706 w707 w708 w709 w710 w711 w712 w713 w714 w715 w716 w717 N224 R224 w718 w719 w720 E224
  have w721 : Xi T15 904 102 = Xi S 904 102 := hFT15.x _ _ rfl
  have w722 : Xi T15 904 103 = Xi S 904 103 := hFT15.x _ _ rfl
  have w723 : Xi T15 904 16 = Xi S 904 16 := hFT15.x _ _ rfl
  have w724 : Xi T15 904 18 = Xi S 904 18 := hFT15.x _ _ rfl
  have w725 : Xi T15 904 19 = Xi S 904 19 := hFT15.x _ _ rfl
  have w726 : Xi T15 904 23 = Xi S 904 23 := hFT15.x _ _ rfl
  have w727 : Xi T15 904 30 = Xi S 904 30 := hFT15.x _ _ rfl
  have w728 : Xi T15 904 41 = Xi S 904 41 := hFT15.x _ _ rfl
  have w729 : Xi T15 904 47 = Xi S 904 47 := hFT15.x _ _ rfl
  have w730 : Xi T15 904 49 = Xi S 904 49 := hFT15.x _ _ rfl
  have w731 : Xi T15 904 55 = Xi S 904 55 := hFT15.x _ _ rfl
  have w732 : Xi T15 904 60 = Xi S 904 60 := hFT15.x _ _ rfl
  have w733 : Xi T15 904 69 = Xi S 904 69 := hFT15.x _ _ rfl
  have w734 : Xi T15 904 70 = Xi S 904 70 := hFT15.x _ _ rfl
  have w735 : Xi T15 904 71 = Xi S 904 71 := hFT15.x _ _ rfl
  have w736 : Xi T15 904 72 = Xi S 904 72 := hFT15.x _ _ rfl
  have w737 : Xi T15 904 73 = Xi S 904 73 := hFT15.x _ _ rfl
  have w738 : Xi T15 904 74 = Xi S 904 74 := hFT15.x _ _ rfl
  have w739 : Xi T15 904 78 = Xi S 904 78 := hFT15.x _ _ rfl
  have w740 : Xi T15 904 81 = Xi S 904 81 := hFT15.x _ _ rfl
  have w741 : Xi T15 904 94 = Xi S 904 94 := hFT15.x _ _ rfl
  have w742 : Xi T15 904 98 = Xi S 904 98 := hFT15.x _ _ rfl
  have w743 : Xi T15 951 0 = Xi S 951 0 := hFT15.x _ _ rfl
  have w744 : Xi T15 951 1 = Xi S 951 1 := hFT15.x _ _ rfl
  have w745 : 0 ≤ Xi T15 904 106 ∧ Xi T15 904 106 ≤ 9 := hHT15.c _ _
  have w746 : 0 ≤ Xi T15 904 108 ∧ Xi T15 904 108 ≤ 2600 := hHT15.c _ _
  have w747 : 0 ≤ Xi T15 904 117 ∧ Xi T15 904 117 ≤ 480 := hHT15.c _ _
  have w748 : -1 ≤ Xi T15 904 60 ∧ Xi T15 904 60 ≤ 23 := hHT15.c _ _
  have w749 : 0 ≤ Xi T15 904 69 ∧ Xi T15 904 69 ≤ 2600 := hHT15.c _ _
  have w750 : 0 ≤ Xi T15 904 70 ∧ Xi T15 904 70 ≤ 20 := hHT15.c _ _
  have w751 : 0 ≤ Xi T15 904 71 ∧ Xi T15 904 71 ≤ 2600 := hHT15.c _ _
  have w752 : 0 ≤ Xi T15 904 72 ∧ Xi T15 904 72 ≤ 2600 := hHT15.c _ _
  have w753 : 0 ≤ Xi T15 904 73 ∧ Xi T15 904 73 ≤ 5 := hHT15.c _ _
  have w754 : 0 ≤ Xi T15 904 74 ∧ Xi T15 904 74 ≤ 2600 := hHT15.c _ _
  have w755 : -2 ≤ Xi T15 904 78 ∧ Xi T15 904 78 ≤ 5010 := hHT15.c _ _
  have w756 : 0 ≤ Xi T15 904 81 ∧ Xi T15 904 81 ≤ 5010 := hHT15.c _ _
  have w757 : 0 ≤ Xi T15 904 94 ∧ Xi T15 904 94 ≤ 1700 := hHT15.c _ _
  have w758 : 0 ≤ Xi T15 904 98 ∧ Xi T15 904 98 ≤ 1700 := hHT15.c _ _
  refine l_aload_n rfl rfl ?_
  refine l_iconst rfl ?_
  refine l_iconst rfl ?_
  refine l_iconst rfl ?_
  have w759 : 0 ≤ Xi T15 904 106 ∧ Xi T15 904 106 ≤ 9 := hHT15.c _ _
  have w760 : 0 ≤ Xi T15 904 108 ∧ Xi T15 904 108 ≤ 2600 := hHT15.c _ _
  have w761 : -1 ≤ Xi T15 904 115 ∧ Xi T15 904 115 ≤ 15 := hHT15.c _ _
  have w762 : -1 ≤ Xi T15 904 116 ∧ Xi T15 904 116 ≤ 15 := hHT15.c _ _
  have w763 : 0 ≤ Xi T15 904 117 ∧ Xi T15 904 117 ≤ 480 := hHT15.c _ _
  have w764 : 0 ≤ Xi T15 904 142 ∧ Xi T15 904 142 ≤ 4 := hHT15.c _ _
  have w765 : -1 ≤ Xi T15 904 60 ∧ Xi T15 904 60 ≤ 23 := hHT15.c _ _
  have w766 : 0 ≤ Xi T15 904 69 ∧ Xi T15 904 69 ≤ 2600 := hHT15.c _ _
  have w767 : 0 ≤ Xi T15 904 70 ∧ Xi T15 904 70 ≤ 20 := hHT15.c _ _
  have w768 : 0 ≤ Xi T15 904 71 ∧ Xi T15 904 71 ≤ 2600 := hHT15.c _ _
  have w769 : 0 ≤ Xi T15 904 72 ∧ Xi T15 904 72 ≤ 2600 := hHT15.c _ _
  have w770 : 0 ≤ Xi T15 904 73 ∧ Xi T15 904 73 ≤ 5 := hHT15.c _ _
  have w771 : 0 ≤ Xi T15 904 74 ∧ Xi T15 904 74 ≤ 2600 := hHT15.c _ _
  have w772 : -2 ≤ Xi T15 904 78 ∧ Xi T15 904 78 ≤ 5010 := hHT15.c _ _
  have w773 : 0 ≤ Xi T15 904 81 ∧ Xi T15 904 81 ≤ 5010 := hHT15.c _ _
  have w774 : 0 ≤ Xi T15 904 94 ∧ Xi T15 904 94 ≤ 1700 := hHT15.c _ _
  have w775 : 0 ≤ Xi T15 904 98 ∧ Xi T15 904 98 ≤ 1700 := hHT15.c _ _
  refine l_callV rfl rfl rfl (t_mo_mustBeNew__2 hHT15 n 1 0 1 ⟨by omega, by omega⟩ ⟨by omega, by omega⟩ ⟨by omega, by omega⟩ (by first | assumption | exact (TK_FR hFT15 rfl (by assumption : TK S _))) (by first | assumption | exact (RNV_FR hFT15 rfl (by assumption : RNV S _))) (by first | assumption | omega) (by first | assumption | exact fun k hk => absurd hk (by omega) | exact (by assumption : NWV T15)) (by first | assumption | omega) _) ?_
  rintro _ T16 ⟨hHT16, w781, rfl, w776, g228, w777, w778, w779⟩
  have hFT16 : FR md_mo_asked S T16 := FR.tr hFT15 w781 rfl
  show Rl _ _ _ _ _ [] _ _
  have y228_69 : Xi T16 904 69 = Xi T15 904 69 := ((show Xi T16 904 69 = Xi T15 904 69 from w781.x _ _ rfl))
  have y228_70 : Xi T16 904 70 = Xi T15 904 70 := ((show Xi T16 904 70 = Xi T15 904 70 from w781.x _ _ rfl))
  have y228_71 : Xi T16 904 71 = Xi T15 904 71 := ((show Xi T16 904 71 = Xi T15 904 71 from w781.x _ _ rfl))
  have y228_72 : Xi T16 904 72 = Xi T15 904 72 := ((show Xi T16 904 72 = Xi T15 904 72 from w781.x _ _ rfl))
  have y228_73 : Xi T16 904 73 = Xi T15 904 73 := ((show Xi T16 904 73 = Xi T15 904 73 from w781.x _ _ rfl))
  have y228_74 : Xi T16 904 74 = Xi T15 904 74 := ((show Xi T16 904 74 = Xi T15 904 74 from w781.x _ _ rfl))
  have y228_78 : Xi T16 904 78 = Xi T15 904 78 := ((show Xi T16 904 78 = Xi T15 904 78 from w781.x _ _ rfl))
  have y228_81 : Xi T16 904 81 = Xi T15 904 81 := ((show Xi T16 904 81 = Xi T15 904 81 from w781.x _ _ rfl))
  have y228_94 : Xi T16 904 94 = Xi T15 904 94 := ((show Xi T16 904 94 = Xi T15 904 94 from w781.x _ _ rfl))
  have y228_98 : Xi T16 904 98 = Xi T15 904 98 := ((show Xi T16 904 98 = Xi T15 904 98 from w781.x _ _ rfl))
  have y228_60 : Xi T16 904 60 = Xi T15 904 60 := ((show Xi T16 904 60 = Xi T15 904 60 from w781.x _ _ rfl))
  have y228_117 : Xi T16 904 117 = Xi T15 904 117 := ((show Xi T16 904 117 = Xi T15 904 117 from w781.x _ _ rfl))
  have G228 : Xi T16 904 106 = 0 → Xi S 951 1 ≤ 3 := fun q => (by have u := (g228 q).2.1; rw [(hFT15.cx 951 rfl _).1] at u; exact u)
  have F228 : Xi T16 904 106 = 0 → DOK T16 := fun q => dok_8 (by omega) (⟨by rw [(hFT16.cx 951 rfl _).1]; exact G228 q, by rw [r2R_FR hFT16 rfl rfl, r2R_FR hFT16 rfl rfl]; exact E224 (by omega)⟩)
  refine l_goto rfl rfl ?_
  refine l_return rfl rfl ?_
  have w782 : 0 ≤ Xi T16 904 106 ∧ Xi T16 904 106 ≤ 9 := hHT16.c _ _
  have w783 : 0 ≤ Xi T16 904 108 ∧ Xi T16 904 108 ≤ 2600 := hHT16.c _ _
  have w784 : Xi T16 904 109 = Xi T15 904 109 := (show Xi T16 904 109 = Xi T15 904 109 from w781.x _ _ rfl)
  have w785 : Xi T16 904 115 = Xi T15 904 115 := (show Xi T16 904 115 = Xi T15 904 115 from w781.x _ _ rfl)
  have w786 : -1 ≤ Xi T15 904 115 ∧ Xi T15 904 115 ≤ 15 := hHT15.c _ _
  have w787 : Xi T16 904 116 = Xi T15 904 116 := (show Xi T16 904 116 = Xi T15 904 116 from w781.x _ _ rfl)
  have w788 : -1 ≤ Xi T15 904 116 ∧ Xi T15 904 116 ≤ 15 := hHT15.c _ _
  have w789 : Xi T16 904 117 = Xi T15 904 117 := (show Xi T16 904 117 = Xi T15 904 117 from w781.x _ _ rfl)
  have w790 : 0 ≤ Xi T15 904 117 ∧ Xi T15 904 117 ≤ 480 := hHT15.c _ _
  have w791 : Xi T16 904 142 = Xi T15 904 142 := (show Xi T16 904 142 = Xi T15 904 142 from w781.x _ _ rfl)
  have w792 : 0 ≤ Xi T15 904 142 ∧ Xi T15 904 142 ≤ 4 := hHT15.c _ _
  have w793 : Xi T16 904 60 = Xi T15 904 60 := (show Xi T16 904 60 = Xi T15 904 60 from w781.x _ _ rfl)
  have w794 : -1 ≤ Xi T15 904 60 ∧ Xi T15 904 60 ≤ 23 := hHT15.c _ _
  have w795 : Xi T16 904 69 = Xi T15 904 69 := (show Xi T16 904 69 = Xi T15 904 69 from w781.x _ _ rfl)
  have w796 : 0 ≤ Xi T15 904 69 ∧ Xi T15 904 69 ≤ 2600 := hHT15.c _ _
  have w797 : Xi T16 904 70 = Xi T15 904 70 := (show Xi T16 904 70 = Xi T15 904 70 from w781.x _ _ rfl)
  have w798 : 0 ≤ Xi T15 904 70 ∧ Xi T15 904 70 ≤ 20 := hHT15.c _ _
  have w799 : Xi T16 904 71 = Xi T15 904 71 := (show Xi T16 904 71 = Xi T15 904 71 from w781.x _ _ rfl)
  have w800 : 0 ≤ Xi T15 904 71 ∧ Xi T15 904 71 ≤ 2600 := hHT15.c _ _
  have w801 : Xi T16 904 72 = Xi T15 904 72 := (show Xi T16 904 72 = Xi T15 904 72 from w781.x _ _ rfl)
  have w802 : 0 ≤ Xi T15 904 72 ∧ Xi T15 904 72 ≤ 2600 := hHT15.c _ _
  have w803 : Xi T16 904 73 = Xi T15 904 73 := (show Xi T16 904 73 = Xi T15 904 73 from w781.x _ _ rfl)
  have w804 : 0 ≤ Xi T15 904 73 ∧ Xi T15 904 73 ≤ 5 := hHT15.c _ _
  have w805 : Xi T16 904 74 = Xi T15 904 74 := (show Xi T16 904 74 = Xi T15 904 74 from w781.x _ _ rfl)
  have w806 : 0 ≤ Xi T15 904 74 ∧ Xi T15 904 74 ≤ 2600 := hHT15.c _ _
  have w807 : Xi T16 904 78 = Xi T15 904 78 := (show Xi T16 904 78 = Xi T15 904 78 from w781.x _ _ rfl)
  have w808 : -2 ≤ Xi T15 904 78 ∧ Xi T15 904 78 ≤ 5010 := hHT15.c _ _
  have w809 : Xi T16 904 81 = Xi T15 904 81 := (show Xi T16 904 81 = Xi T15 904 81 from w781.x _ _ rfl)
  have w810 : 0 ≤ Xi T15 904 81 ∧ Xi T15 904 81 ≤ 5010 := hHT15.c _ _
  have w811 : Xi T16 904 94 = Xi T15 904 94 := (show Xi T16 904 94 = Xi T15 904 94 from w781.x _ _ rfl)
  have w812 : 0 ≤ Xi T15 904 94 ∧ Xi T15 904 94 ≤ 1700 := hHT15.c _ _
  have w813 : Xi T16 904 98 = Xi T15 904 98 := (show Xi T16 904 98 = Xi T15 904 98 from w781.x _ _ rfl)
  have w814 : 0 ≤ Xi T15 904 98 ∧ Xi T15 904 98 ≤ 1700 := hHT15.c _ _
  exact ⟨hHT16, hFT16, rfl, (by assumption), (by first | exact fun q => by assumption | assumption | exact fun q => (RDT_FR hHT15 w781 rfl rfl rfl (by assumption : RDT T15)))⟩
set_option maxRecDepth 100000 in
set_option maxHeartbeats 8000000 in
theorem c190_mo_asked {S : sS} (hH : HI S) (n : Nat) (dd : Nat) (first : Int) (hfirst : 0 ≤ first ∧ first ≤ 5001) (hT : TK S n) (hv : RNV S n) (hM : LXM S) (hB : ABV S) (hC : DCM S) (hK : TXK S n) (hX : TXM S) (hq : SNQ S n) (hap : AP9 S n) (h94 : Xi S 904 94 ≤ 1668) (hRD : RDT S) (hPF : PF S) (hdt : Xi S 904 70 = 20 → first ≤ dd ∧ dd < n ∧ Xi S 907 dd = 46) (d : Nat) : ∀  (T17 : sS) (_ : HI T17) (_ : FR md_mo_asked S T17), (Xi T17 904 117 = Xi S 904 117) → (Xi T17 904 69 = Xi S 904 69) → (Xi T17 904 70 = Xi S 904 70) → (Xi T17 904 71 = Xi S 904 71) → (Xi T17 904 72 = Xi S 904 72) → (Xi T17 904 73 = Xi S 904 73) → (Xi T17 904 74 = Xi S 904 74) → (Xi T17 904 78 = Xi S 904 78) → (Xi T17 904 81 = Xi S 904 81) → (Xi T17 904 94 = Xi S 904 94) → (Xi T17 904 98 = Xi S 904 98) → (Xi T17 904 60 = Xi S 904 60) → (Xi T17 904 106 = 0) → (Xi T17 904 108 = 0) → (Xi T17 904 115 = -1) → (Xi T17 904 116 = -1) → (SNQ T17 n) → (RDT T17) → (KQL T17 S (Xi S 904 117)) → (Xi S 904 70 = 8) → Rl lay0 (d + 12) m_mo_asked 190 [(0, .ref 904)] [] T17 (Q_mo_asked S n dd first) := by
  have C224 := c224_mo_asked hH n dd first hfirst hT hv hM hB hC hK hX hq hap h94 hRD hPF hdt d 
  have hF : FR md_mo_asked S S := FR.rf
  have w1 : 0 ≤ Xi S 904 106 ∧ Xi S 904 106 ≤ 9 := hH.c _ _
  have w2 : 0 ≤ Xi S 904 108 ∧ Xi S 904 108 ≤ 2600 := hH.c _ _
  have w3 : -1 ≤ Xi S 904 115 ∧ Xi S 904 115 ≤ 15 := hH.c _ _
  have w4 : -1 ≤ Xi S 904 116 ∧ Xi S 904 116 ≤ 15 := hH.c _ _
  have w5 : 0 ≤ Xi S 904 117 ∧ Xi S 904 117 ≤ 480 := hH.c _ _
  have w6 : 0 ≤ Xi S 904 23 ∧ Xi S 904 23 ≤ 24 := hH.c _ _
  have w7 : 0 ≤ Xi S 904 41 ∧ Xi S 904 41 ≤ 6 := hH.c _ _
  have w8 : -1 ≤ Xi S 904 60 ∧ Xi S 904 60 ≤ 23 := hH.c _ _
  have w9 : 0 ≤ Xi S 904 69 ∧ Xi S 904 69 ≤ 2600 := hH.c _ _
  have w10 : 0 ≤ Xi S 904 70 ∧ Xi S 904 70 ≤ 20 := hH.c _ _
  have w11 : 0 ≤ Xi S 904 71 ∧ Xi S 904 71 ≤ 2600 := hH.c _ _
  have w12 : 0 ≤ Xi S 904 72 ∧ Xi S 904 72 ≤ 2600 := hH.c _ _
  have w13 : 0 ≤ Xi S 904 73 ∧ Xi S 904 73 ≤ 5 := hH.c _ _
  have w14 : 0 ≤ Xi S 904 74 ∧ Xi S 904 74 ≤ 2600 := hH.c _ _
  have w15 : -2 ≤ Xi S 904 78 ∧ Xi S 904 78 ≤ 5010 := hH.c _ _
  have w16 : 0 ≤ Xi S 904 81 ∧ Xi S 904 81 ≤ 5010 := hH.c _ _
  have w17 : 0 ≤ Xi S 904 94 ∧ Xi S 904 94 ≤ 1700 := hH.c _ _
  have w18 : 0 ≤ Xi S 904 98 ∧ Xi S 904 98 ≤ 1700 := hH.c _ _
  have w19 : 0 ≤ Xi S 951 0 ∧ Xi S 951 0 ≤ 5010 := hH.c _ _
  have w20 : 0 ≤ Xi S 951 1 ∧ Xi S 951 1 ≤ 5010 := hH.c _ _
  have hn5 := hT.1
  have hc69 : 0 ≤ Xi S 904 69 ∧ Xi S 904 69 ≤ 2600 := hH.c _ _
  have hc70 : 0 ≤ Xi S 904 70 ∧ Xi S 904 70 ≤ 20 := hH.c _ _
  have hc23 : 0 ≤ Xi S 904 23 ∧ Xi S 904 23 ≤ 24 := hH.c _ _
  have hrf : ∀ r : Int, 0 ≤ r → r < Xi S 904 69 → Xi S 950 r.toNat + Xi S 951 r.toNat ≤ n ∧ 1 ≤ Xi S 951 r.toNat := fun r a b => hv r.toNat (by omega)
  have hq0 : KQL S S (Xi S 904 117) := KQL.rf
  intro T17 hHT17 hFT17 w815 w816 w817 w818 w819 w820 w821 w822 w823 w824 w825 w826 w827 w828 w829 w830 q20 r20 K20 w831
  have w832 : Xi T17 904 102 = Xi S 904 102 := hFT17.x _ _ rfl
  have w833 : Xi T17 904 103 = Xi S 904 103 := hFT17.x _ _ rfl
  have w834 : Xi T17 904 16 = Xi S 904 16 := hFT17.x _ _ rfl
  have w835 : Xi T17 904 18 = Xi S 904 18 := hFT17.x _ _ rfl
  have w836 : Xi T17 904 19 = Xi S 904 19 := hFT17.x _ _ rfl
  have w837 : Xi T17 904 23 = Xi S 904 23 := hFT17.x _ _ rfl
  have w838 : Xi T17 904 30 = Xi S 904 30 := hFT17.x _ _ rfl
  have w839 : Xi T17 904 41 = Xi S 904 41 := hFT17.x _ _ rfl
  have w840 : Xi T17 904 47 = Xi S 904 47 := hFT17.x _ _ rfl
  have w841 : Xi T17 904 49 = Xi S 904 49 := hFT17.x _ _ rfl
  have w842 : Xi T17 904 55 = Xi S 904 55 := hFT17.x _ _ rfl
  have w843 : Xi T17 904 60 = Xi S 904 60 := hFT17.x _ _ rfl
  have w844 : Xi T17 904 69 = Xi S 904 69 := hFT17.x _ _ rfl
  have w845 : Xi T17 904 70 = Xi S 904 70 := hFT17.x _ _ rfl
  have w846 : Xi T17 904 71 = Xi S 904 71 := hFT17.x _ _ rfl
  have w847 : Xi T17 904 72 = Xi S 904 72 := hFT17.x _ _ rfl
  have w848 : Xi T17 904 73 = Xi S 904 73 := hFT17.x _ _ rfl
  have w849 : Xi T17 904 74 = Xi S 904 74 := hFT17.x _ _ rfl
  have w850 : Xi T17 904 78 = Xi S 904 78 := hFT17.x _ _ rfl
  have w851 : Xi T17 904 81 = Xi S 904 81 := hFT17.x _ _ rfl
  have w852 : Xi T17 904 94 = Xi S 904 94 := hFT17.x _ _ rfl
  have w853 : Xi T17 904 98 = Xi S 904 98 := hFT17.x _ _ rfl
  have w854 : Xi T17 951 0 = Xi S 951 0 := hFT17.x _ _ rfl
  have w855 : Xi T17 951 1 = Xi S 951 1 := hFT17.x _ _ rfl
  have w856 : 0 ≤ Xi T17 904 106 ∧ Xi T17 904 106 ≤ 9 := hHT17.c _ _
  have w857 : 0 ≤ Xi T17 904 108 ∧ Xi T17 904 108 ≤ 2600 := hHT17.c _ _
  have w858 : -1 ≤ Xi T17 904 115 ∧ Xi T17 904 115 ≤ 15 := hHT17.c _ _
  have w859 : -1 ≤ Xi T17 904 116 ∧ Xi T17 904 116 ≤ 15 := hHT17.c _ _
  have w860 : 0 ≤ Xi T17 904 117 ∧ Xi T17 904 117 ≤ 480 := hHT17.c _ _
  have w861 : -1 ≤ Xi T17 904 60 ∧ Xi T17 904 60 ≤ 23 := hHT17.c _ _
  have w862 : 0 ≤ Xi T17 904 69 ∧ Xi T17 904 69 ≤ 2600 := hHT17.c _ _
  have w863 : 0 ≤ Xi T17 904 70 ∧ Xi T17 904 70 ≤ 20 := hHT17.c _ _
  have w864 : 0 ≤ Xi T17 904 71 ∧ Xi T17 904 71 ≤ 2600 := hHT17.c _ _
  have w865 : 0 ≤ Xi T17 904 72 ∧ Xi T17 904 72 ≤ 2600 := hHT17.c _ _
  have w866 : 0 ≤ Xi T17 904 73 ∧ Xi T17 904 73 ≤ 5 := hHT17.c _ _
  have w867 : 0 ≤ Xi T17 904 74 ∧ Xi T17 904 74 ≤ 2600 := hHT17.c _ _
  have w868 : -2 ≤ Xi T17 904 78 ∧ Xi T17 904 78 ≤ 5010 := hHT17.c _ _
  have w869 : 0 ≤ Xi T17 904 81 ∧ Xi T17 904 81 ≤ 5010 := hHT17.c _ _
  have w870 : 0 ≤ Xi T17 904 94 ∧ Xi T17 904 94 ≤ 1700 := hHT17.c _ _
  have w871 : 0 ≤ Xi T17 904 98 ∧ Xi T17 904 98 ≤ 1700 := hHT17.c _ _
  refine l_aload_n rfl rfl ?_
  have s190 := q20.2.2.1 (by omega)
  have z190_0 : Xi S 950 0 + Xi S 951 0 ≤ n := (hv 0 (by omega)).1
  have z190_1 : Xi S 950 1 + Xi S 951 1 ≤ n := (hv 1 (by omega)).1
  refine l_aload_n rfl rfl ?_
  refine l_iconst rfl ?_
  have w872 : 0 ≤ Xi T17 904 106 ∧ Xi T17 904 106 ≤ 9 := hHT17.c _ _
  have w873 : 0 ≤ Xi T17 904 108 ∧ Xi T17 904 108 ≤ 2600 := hHT17.c _ _
  have w874 : -1 ≤ Xi T17 904 115 ∧ Xi T17 904 115 ≤ 15 := hHT17.c _ _
  have w875 : -1 ≤ Xi T17 904 116 ∧ Xi T17 904 116 ≤ 15 := hHT17.c _ _
  have w876 : 0 ≤ Xi T17 904 117 ∧ Xi T17 904 117 ≤ 480 := hHT17.c _ _
  have w877 : 0 ≤ Xi T17 904 142 ∧ Xi T17 904 142 ≤ 4 := hHT17.c _ _
  have w878 : 0 ≤ Xi T17 904 16 ∧ Xi T17 904 16 ≤ 16 := hHT17.c _ _
  have w879 : -1 ≤ Xi T17 904 60 ∧ Xi T17 904 60 ≤ 23 := hHT17.c _ _
  have w880 : 0 ≤ Xi T17 904 69 ∧ Xi T17 904 69 ≤ 2600 := hHT17.c _ _
  have w881 : 0 ≤ Xi T17 904 70 ∧ Xi T17 904 70 ≤ 20 := hHT17.c _ _
  have w882 : 0 ≤ Xi T17 904 71 ∧ Xi T17 904 71 ≤ 2600 := hHT17.c _ _
  have w883 : 0 ≤ Xi T17 904 72 ∧ Xi T17 904 72 ≤ 2600 := hHT17.c _ _
  have w884 : 0 ≤ Xi T17 904 73 ∧ Xi T17 904 73 ≤ 5 := hHT17.c _ _
  have w885 : 0 ≤ Xi T17 904 74 ∧ Xi T17 904 74 ≤ 2600 := hHT17.c _ _
  have w886 : -2 ≤ Xi T17 904 78 ∧ Xi T17 904 78 ≤ 5010 := hHT17.c _ _
  have w887 : 0 ≤ Xi T17 904 81 ∧ Xi T17 904 81 ≤ 5010 := hHT17.c _ _
  have w888 : 0 ≤ Xi T17 904 94 ∧ Xi T17 904 94 ≤ 1700 := hHT17.c _ _
  have w889 : 0 ≤ Xi T17 904 98 ∧ Xi T17 904 98 ≤ 1700 := hHT17.c _ _
  refine l_callV rfl rfl rfl (t_mo_kindOrPlural__2 hHT17 n 0 ⟨by omega, by omega⟩ (by first | assumption | exact (TK_FR hFT17 rfl (by assumption : TK S _))) (by first | assumption | exact (RNV_FR hFT17 rfl (by assumption : RNV S _))) (by first | assumption | omega) (by first | assumption | exact (LXM_FR hFT17 rfl (by assumption : LXM S))) _) ?_
  rintro _ _ ⟨rfl, z892, rfl, w892, w890, w891⟩
  show Rl _ _ _ _ _ [iv z892, .ref 904] _ _
  have r193 : z892 = r2R S 0 0 1 := (by assumption : z892 = r2R T17 _ _ _).trans (r2R_FR hFT17 rfl rfl)
  refine l_iconst rfl ?_
  refine l_icmp_ne rfl rfl (by unfold rg; omega) (by unfold rg; omega) (fun w893 => ?_) (fun w894 => ?_)
  · refine l_iconst rfl ?_
    refine l_goto rfl rfl ?_
    refine l_iconst rfl ?_
    refine l_aload_n rfl rfl ?_
    refine l_gfr rfl rfl rfl rfl rfl (hHT17.r 904 67 950 rfl) ?_
    refine l_iconst rfl ?_
    refine l_iaload (n := 2600) rfl rfl (by omega) (by omega) (by unfold rg; omega) ?_
    have w895 : 0 ≤ (Xi T17 950 ((0 : Int).toNat)) ∧ (Xi T17 950 ((0 : Int).toNat)) ≤ 5010 := hHT17.c _ _
    have w896 : (Xi T17 950 ((0 : Int).toNat)) = Xi T17 950 0 := rfl
    have e220 : (Xi T17 950 ((0 : Int).toNat)) = Xi S 950 0 := by first | rfl | exact (hFT17.cx 950 rfl _).1
    have w897 : 0 ≤ Xi T17 904 106 ∧ Xi T17 904 106 ≤ 9 := hHT17.c _ _
    have w898 : 0 ≤ Xi T17 904 108 ∧ Xi T17 904 108 ≤ 2600 := hHT17.c _ _
    have w899 : -1 ≤ Xi T17 904 115 ∧ Xi T17 904 115 ≤ 15 := hHT17.c _ _
    have w900 : -1 ≤ Xi T17 904 116 ∧ Xi T17 904 116 ≤ 15 := hHT17.c _ _
    have w901 : 0 ≤ Xi T17 904 117 ∧ Xi T17 904 117 ≤ 480 := hHT17.c _ _
    have w902 : 0 ≤ Xi T17 904 142 ∧ Xi T17 904 142 ≤ 4 := hHT17.c _ _
    have w903 : -1 ≤ Xi T17 904 60 ∧ Xi T17 904 60 ≤ 23 := hHT17.c _ _
    have w904 : 0 ≤ Xi T17 904 69 ∧ Xi T17 904 69 ≤ 2600 := hHT17.c _ _
    have w905 : 0 ≤ Xi T17 904 70 ∧ Xi T17 904 70 ≤ 20 := hHT17.c _ _
    have w906 : 0 ≤ Xi T17 904 71 ∧ Xi T17 904 71 ≤ 2600 := hHT17.c _ _
    have w907 : 0 ≤ Xi T17 904 72 ∧ Xi T17 904 72 ≤ 2600 := hHT17.c _ _
    have w908 : 0 ≤ Xi T17 904 73 ∧ Xi T17 904 73 ≤ 5 := hHT17.c _ _
    have w909 : 0 ≤ Xi T17 904 74 ∧ Xi T17 904 74 ≤ 2600 := hHT17.c _ _
    have w910 : -2 ≤ Xi T17 904 78 ∧ Xi T17 904 78 ≤ 5010 := hHT17.c _ _
    have w911 : 0 ≤ Xi T17 904 81 ∧ Xi T17 904 81 ≤ 5010 := hHT17.c _ _
    have w912 : 0 ≤ Xi T17 904 94 ∧ Xi T17 904 94 ≤ 1700 := hHT17.c _ _
    have w913 : 0 ≤ Xi T17 904 98 ∧ Xi T17 904 98 ≤ 1700 := hHT17.c _ _
    refine l_callV rfl rfl rfl (t_mo_need hHT17 1 4 (Xi T17 950 ((0 : Int).toNat)) ⟨by omega, by omega⟩ ⟨by omega, by omega⟩ ⟨by omega, by omega⟩ _) ?_
    rintro _ T18 ⟨hHT18, w917, rfl, w914, w915⟩
    have hFT18 : FR md_mo_asked S T18 := FR.tr hFT17 w917 rfl
    show Rl _ _ _ _ _ [] _ _
    have w918 : 0 ≤ Xi T18 904 106 ∧ Xi T18 904 106 ≤ 9 := hHT18.c _ _
    have w919 : Xi T18 904 108 = Xi T17 904 108 := (show Xi T18 904 108 = Xi T17 904 108 from w917.x _ _ rfl)
    have w920 : 0 ≤ Xi T17 904 108 ∧ Xi T17 904 108 ≤ 2600 := hHT17.c _ _
    have w921 : Xi T18 904 109 = Xi T17 904 109 := (show Xi T18 904 109 = Xi T17 904 109 from w917.x _ _ rfl)
    have w922 : Xi T18 904 115 = Xi T17 904 115 := (show Xi T18 904 115 = Xi T17 904 115 from w917.x _ _ rfl)
    have w923 : -1 ≤ Xi T17 904 115 ∧ Xi T17 904 115 ≤ 15 := hHT17.c _ _
    have w924 : Xi T18 904 116 = Xi T17 904 116 := (show Xi T18 904 116 = Xi T17 904 116 from w917.x _ _ rfl)
    have w925 : -1 ≤ Xi T17 904 116 ∧ Xi T17 904 116 ≤ 15 := hHT17.c _ _
    have w926 : Xi T18 904 117 = Xi T17 904 117 := (show Xi T18 904 117 = Xi T17 904 117 from w917.x _ _ rfl)
    have w927 : 0 ≤ Xi T17 904 117 ∧ Xi T17 904 117 ≤ 480 := hHT17.c _ _
    have w928 : Xi T18 904 142 = Xi T17 904 142 := (show Xi T18 904 142 = Xi T17 904 142 from w917.x _ _ rfl)
    have w929 : 0 ≤ Xi T17 904 142 ∧ Xi T17 904 142 ≤ 4 := hHT17.c _ _
    have w930 : Xi T18 904 60 = Xi T17 904 60 := (show Xi T18 904 60 = Xi T17 904 60 from w917.x _ _ rfl)
    have w931 : -1 ≤ Xi T17 904 60 ∧ Xi T17 904 60 ≤ 23 := hHT17.c _ _
    have w932 : Xi T18 904 69 = Xi T17 904 69 := (show Xi T18 904 69 = Xi T17 904 69 from w917.x _ _ rfl)
    have w933 : 0 ≤ Xi T17 904 69 ∧ Xi T17 904 69 ≤ 2600 := hHT17.c _ _
    have w934 : Xi T18 904 70 = Xi T17 904 70 := (show Xi T18 904 70 = Xi T17 904 70 from w917.x _ _ rfl)
    have w935 : 0 ≤ Xi T17 904 70 ∧ Xi T17 904 70 ≤ 20 := hHT17.c _ _
    have w936 : Xi T18 904 71 = Xi T17 904 71 := (show Xi T18 904 71 = Xi T17 904 71 from w917.x _ _ rfl)
    have w937 : 0 ≤ Xi T17 904 71 ∧ Xi T17 904 71 ≤ 2600 := hHT17.c _ _
    have w938 : Xi T18 904 72 = Xi T17 904 72 := (show Xi T18 904 72 = Xi T17 904 72 from w917.x _ _ rfl)
    have w939 : 0 ≤ Xi T17 904 72 ∧ Xi T17 904 72 ≤ 2600 := hHT17.c _ _
    have w940 : Xi T18 904 73 = Xi T17 904 73 := (show Xi T18 904 73 = Xi T17 904 73 from w917.x _ _ rfl)
    have w941 : 0 ≤ Xi T17 904 73 ∧ Xi T17 904 73 ≤ 5 := hHT17.c _ _
    have w942 : Xi T18 904 74 = Xi T17 904 74 := (show Xi T18 904 74 = Xi T17 904 74 from w917.x _ _ rfl)
    have w943 : 0 ≤ Xi T17 904 74 ∧ Xi T17 904 74 ≤ 2600 := hHT17.c _ _
    have w944 : Xi T18 904 78 = Xi T17 904 78 := (show Xi T18 904 78 = Xi T17 904 78 from w917.x _ _ rfl)
    have w945 : -2 ≤ Xi T17 904 78 ∧ Xi T17 904 78 ≤ 5010 := hHT17.c _ _
    have w946 : Xi T18 904 81 = Xi T17 904 81 := (show Xi T18 904 81 = Xi T17 904 81 from w917.x _ _ rfl)
    have w947 : 0 ≤ Xi T17 904 81 ∧ Xi T17 904 81 ≤ 5010 := hHT17.c _ _
    have w948 : Xi T18 904 94 = Xi T17 904 94 := (show Xi T18 904 94 = Xi T17 904 94 from w917.x _ _ rfl)
    have w949 : 0 ≤ Xi T17 904 94 ∧ Xi T17 904 94 ≤ 1700 := hHT17.c _ _
    have w950 : Xi T18 904 98 = Xi T17 904 98 := (show Xi T18 904 98 = Xi T17 904 98 from w917.x _ _ rfl)
    have w951 : 0 ≤ Xi T17 904 98 ∧ Xi T17 904 98 ≤ 1700 := hHT17.c _ _
    exact Rl_weak (C224 T18 hHT18 hFT18  (by omega) (by omega) (by omega) (by omega) (by omega) (by omega) (by omega) (by omega) (by omega) (by omega) (by omega) (by omega) (by first | assumption | exact fun k hk => absurd hk (by omega) | exact (NWV_FR w917 rfl (by assumption : NWV T17))) (by first | assumption | exact (RDT_FR hHT17 w917 rfl rfl rfl (by assumption : RDT T17))) (by omega) (by omega) (by omega) (by first | exact fun q => Or.inl (by omega) | exact fun q => Or.inr (by omega) | exact fun q => absurd q (by omega))) (And.intro rfl (True.intro))
  · refine l_aload_n rfl rfl ?_
    refine l_iconst rfl ?_
    have w952 : 0 ≤ Xi T17 904 106 ∧ Xi T17 904 106 ≤ 9 := hHT17.c _ _
    have w953 : 0 ≤ Xi T17 904 108 ∧ Xi T17 904 108 ≤ 2600 := hHT17.c _ _
    have w954 : -1 ≤ Xi T17 904 115 ∧ Xi T17 904 115 ≤ 15 := hHT17.c _ _
    have w955 : -1 ≤ Xi T17 904 116 ∧ Xi T17 904 116 ≤ 15 := hHT17.c _ _
    have w956 : 0 ≤ Xi T17 904 117 ∧ Xi T17 904 117 ≤ 480 := hHT17.c _ _
    have w957 : 0 ≤ Xi T17 904 142 ∧ Xi T17 904 142 ≤ 4 := hHT17.c _ _
    have w958 : -1 ≤ Xi T17 904 60 ∧ Xi T17 904 60 ≤ 23 := hHT17.c _ _
    have w959 : 0 ≤ Xi T17 904 69 ∧ Xi T17 904 69 ≤ 2600 := hHT17.c _ _
    have w960 : 0 ≤ Xi T17 904 70 ∧ Xi T17 904 70 ≤ 20 := hHT17.c _ _
    have w961 : 0 ≤ Xi T17 904 71 ∧ Xi T17 904 71 ≤ 2600 := hHT17.c _ _
    have w962 : 0 ≤ Xi T17 904 72 ∧ Xi T17 904 72 ≤ 2600 := hHT17.c _ _
    have w963 : 0 ≤ Xi T17 904 73 ∧ Xi T17 904 73 ≤ 5 := hHT17.c _ _
    have w964 : 0 ≤ Xi T17 904 74 ∧ Xi T17 904 74 ≤ 2600 := hHT17.c _ _
    have w965 : -2 ≤ Xi T17 904 78 ∧ Xi T17 904 78 ≤ 5010 := hHT17.c _ _
    have w966 : 0 ≤ Xi T17 904 81 ∧ Xi T17 904 81 ≤ 5010 := hHT17.c _ _
    have w967 : 0 ≤ Xi T17 904 94 ∧ Xi T17 904 94 ≤ 1700 := hHT17.c _ _
    have w968 : 0 ≤ Xi T17 904 98 ∧ Xi T17 904 98 ≤ 1700 := hHT17.c _ _
    refine l_callV rfl rfl rfl (t_mo_typeOrPlural__2 hHT17 n 0 ⟨by omega, by omega⟩ (by first | assumption | exact (TK_FR hFT17 rfl (by assumption : TK S _))) (by first | assumption | exact (RNV_FR hFT17 rfl (by assumption : RNV S _))) (by first | assumption | omega) (by first | assumption | exact (LXM_FR hFT17 rfl (by assumption : LXM S))) _) ?_
    rintro _ _ ⟨rfl, z970, rfl, w970, w969⟩
    show Rl _ _ _ _ _ [iv z970, .ref 904] _ _
    have r202 : z970 = r2R S 0 2 3 := (by assumption : z970 = r2R T17 _ _ _).trans (r2R_FR hFT17 rfl rfl)
    refine l_iconst rfl ?_
    refine l_icmp_eq rfl rfl (by unfold rg; omega) (by unfold rg; omega) (fun w971 => ?_) (fun w972 => ?_)
    · refine l_iconst rfl ?_
      refine l_iconst rfl ?_
      refine l_aload_n rfl rfl ?_
      refine l_gfr rfl rfl rfl rfl rfl (hHT17.r 904 67 950 rfl) ?_
      refine l_iconst rfl ?_
      refine l_iaload (n := 2600) rfl rfl (by omega) (by omega) (by unfold rg; omega) ?_
      have w973 : 0 ≤ (Xi T17 950 ((0 : Int).toNat)) ∧ (Xi T17 950 ((0 : Int).toNat)) ≤ 5010 := hHT17.c _ _
      have w974 : (Xi T17 950 ((0 : Int).toNat)) = Xi T17 950 0 := rfl
      have e220 : (Xi T17 950 ((0 : Int).toNat)) = Xi S 950 0 := by first | rfl | exact (hFT17.cx 950 rfl _).1
      have w975 : 0 ≤ Xi T17 904 106 ∧ Xi T17 904 106 ≤ 9 := hHT17.c _ _
      have w976 : 0 ≤ Xi T17 904 108 ∧ Xi T17 904 108 ≤ 2600 := hHT17.c _ _
      have w977 : -1 ≤ Xi T17 904 115 ∧ Xi T17 904 115 ≤ 15 := hHT17.c _ _
      have w978 : -1 ≤ Xi T17 904 116 ∧ Xi T17 904 116 ≤ 15 := hHT17.c _ _
      have w979 : 0 ≤ Xi T17 904 117 ∧ Xi T17 904 117 ≤ 480 := hHT17.c _ _
      have w980 : 0 ≤ Xi T17 904 142 ∧ Xi T17 904 142 ≤ 4 := hHT17.c _ _
      have w981 : -1 ≤ Xi T17 904 60 ∧ Xi T17 904 60 ≤ 23 := hHT17.c _ _
      have w982 : 0 ≤ Xi T17 904 69 ∧ Xi T17 904 69 ≤ 2600 := hHT17.c _ _
      have w983 : 0 ≤ Xi T17 904 70 ∧ Xi T17 904 70 ≤ 20 := hHT17.c _ _
      have w984 : 0 ≤ Xi T17 904 71 ∧ Xi T17 904 71 ≤ 2600 := hHT17.c _ _
      have w985 : 0 ≤ Xi T17 904 72 ∧ Xi T17 904 72 ≤ 2600 := hHT17.c _ _
      have w986 : 0 ≤ Xi T17 904 73 ∧ Xi T17 904 73 ≤ 5 := hHT17.c _ _
      have w987 : 0 ≤ Xi T17 904 74 ∧ Xi T17 904 74 ≤ 2600 := hHT17.c _ _
      have w988 : -2 ≤ Xi T17 904 78 ∧ Xi T17 904 78 ≤ 5010 := hHT17.c _ _
      have w989 : 0 ≤ Xi T17 904 81 ∧ Xi T17 904 81 ≤ 5010 := hHT17.c _ _
      have w990 : 0 ≤ Xi T17 904 94 ∧ Xi T17 904 94 ≤ 1700 := hHT17.c _ _
      have w991 : 0 ≤ Xi T17 904 98 ∧ Xi T17 904 98 ≤ 1700 := hHT17.c _ _
      refine l_callV rfl rfl rfl (t_mo_need hHT17 0 4 (Xi T17 950 ((0 : Int).toNat)) ⟨by omega, by omega⟩ ⟨by omega, by omega⟩ ⟨by omega, by omega⟩ _) ?_
      rintro _ T19 ⟨hHT19, w995, rfl, w992, w993⟩
      have hFT19 : FR md_mo_asked S T19 := FR.tr hFT17 w995 rfl
      show Rl _ _ _ _ _ [] _ _
      have w996 : 0 ≤ Xi T19 904 106 ∧ Xi T19 904 106 ≤ 9 := hHT19.c _ _
      have w997 : Xi T19 904 108 = Xi T17 904 108 := (show Xi T19 904 108 = Xi T17 904 108 from w995.x _ _ rfl)
      have w998 : 0 ≤ Xi T17 904 108 ∧ Xi T17 904 108 ≤ 2600 := hHT17.c _ _
      have w999 : Xi T19 904 109 = Xi T17 904 109 := (show Xi T19 904 109 = Xi T17 904 109 from w995.x _ _ rfl)
      have w1000 : Xi T19 904 115 = Xi T17 904 115 := (show Xi T19 904 115 = Xi T17 904 115 from w995.x _ _ rfl)
      have w1001 : -1 ≤ Xi T17 904 115 ∧ Xi T17 904 115 ≤ 15 := hHT17.c _ _
      have w1002 : Xi T19 904 116 = Xi T17 904 116 := (show Xi T19 904 116 = Xi T17 904 116 from w995.x _ _ rfl)
      have w1003 : -1 ≤ Xi T17 904 116 ∧ Xi T17 904 116 ≤ 15 := hHT17.c _ _
      have w1004 : Xi T19 904 117 = Xi T17 904 117 := (show Xi T19 904 117 = Xi T17 904 117 from w995.x _ _ rfl)
      have w1005 : 0 ≤ Xi T17 904 117 ∧ Xi T17 904 117 ≤ 480 := hHT17.c _ _
      have w1006 : Xi T19 904 142 = Xi T17 904 142 := (show Xi T19 904 142 = Xi T17 904 142 from w995.x _ _ rfl)
      have w1007 : 0 ≤ Xi T17 904 142 ∧ Xi T17 904 142 ≤ 4 := hHT17.c _ _
      have w1008 : Xi T19 904 60 = Xi T17 904 60 := (show Xi T19 904 60 = Xi T17 904 60 from w995.x _ _ rfl)
      have w1009 : -1 ≤ Xi T17 904 60 ∧ Xi T17 904 60 ≤ 23 := hHT17.c _ _
      have w1010 : Xi T19 904 69 = Xi T17 904 69 := (show Xi T19 904 69 = Xi T17 904 69 from w995.x _ _ rfl)
      have w1011 : 0 ≤ Xi T17 904 69 ∧ Xi T17 904 69 ≤ 2600 := hHT17.c _ _
      have w1012 : Xi T19 904 70 = Xi T17 904 70 := (show Xi T19 904 70 = Xi T17 904 70 from w995.x _ _ rfl)
      have w1013 : 0 ≤ Xi T17 904 70 ∧ Xi T17 904 70 ≤ 20 := hHT17.c _ _
      have w1014 : Xi T19 904 71 = Xi T17 904 71 := (show Xi T19 904 71 = Xi T17 904 71 from w995.x _ _ rfl)
      have w1015 : 0 ≤ Xi T17 904 71 ∧ Xi T17 904 71 ≤ 2600 := hHT17.c _ _
      have w1016 : Xi T19 904 72 = Xi T17 904 72 := (show Xi T19 904 72 = Xi T17 904 72 from w995.x _ _ rfl)
      have w1017 : 0 ≤ Xi T17 904 72 ∧ Xi T17 904 72 ≤ 2600 := hHT17.c _ _
      have w1018 : Xi T19 904 73 = Xi T17 904 73 := (show Xi T19 904 73 = Xi T17 904 73 from w995.x _ _ rfl)
      have w1019 : 0 ≤ Xi T17 904 73 ∧ Xi T17 904 73 ≤ 5 := hHT17.c _ _
      have w1020 : Xi T19 904 74 = Xi T17 904 74 := (show Xi T19 904 74 = Xi T17 904 74 from w995.x _ _ rfl)
      have w1021 : 0 ≤ Xi T17 904 74 ∧ Xi T17 904 74 ≤ 2600 := hHT17.c _ _
      have w1022 : Xi T19 904 78 = Xi T17 904 78 := (show Xi T19 904 78 = Xi T17 904 78 from w995.x _ _ rfl)
      have w1023 : -2 ≤ Xi T17 904 78 ∧ Xi T17 904 78 ≤ 5010 := hHT17.c _ _
      have w1024 : Xi T19 904 81 = Xi T17 904 81 := (show Xi T19 904 81 = Xi T17 904 81 from w995.x _ _ rfl)
      have w1025 : 0 ≤ Xi T17 904 81 ∧ Xi T17 904 81 ≤ 5010 := hHT17.c _ _
      have w1026 : Xi T19 904 94 = Xi T17 904 94 := (show Xi T19 904 94 = Xi T17 904 94 from w995.x _ _ rfl)
      have w1027 : 0 ≤ Xi T17 904 94 ∧ Xi T17 904 94 ≤ 1700 := hHT17.c _ _
      have w1028 : Xi T19 904 98 = Xi T17 904 98 := (show Xi T19 904 98 = Xi T17 904 98 from w995.x _ _ rfl)
      have w1029 : 0 ≤ Xi T17 904 98 ∧ Xi T17 904 98 ≤ 1700 := hHT17.c _ _
      exact Rl_weak (C224 T19 hHT19 hFT19  (by omega) (by omega) (by omega) (by omega) (by omega) (by omega) (by omega) (by omega) (by omega) (by omega) (by omega) (by omega) (by first | assumption | exact fun k hk => absurd hk (by omega) | exact (NWV_FR w995 rfl (by assumption : NWV T17))) (by first | assumption | exact (RDT_FR hHT17 w995 rfl rfl rfl (by assumption : RDT T17))) (by omega) (by omega) (by omega) (by first | exact fun q => Or.inl (by omega) | exact fun q => Or.inr (by omega) | exact fun q => absurd q (by omega))) (And.intro rfl (True.intro))
    · refine l_iconst rfl ?_
      refine l_goto rfl rfl ?_
      refine l_iconst rfl ?_
      refine l_aload_n rfl rfl ?_
      refine l_gfr rfl rfl rfl rfl rfl (hHT17.r 904 67 950 rfl) ?_
      refine l_iconst rfl ?_
      refine l_iaload (n := 2600) rfl rfl (by omega) (by omega) (by unfold rg; omega) ?_
      have w1030 : 0 ≤ (Xi T17 950 ((0 : Int).toNat)) ∧ (Xi T17 950 ((0 : Int).toNat)) ≤ 5010 := hHT17.c _ _
      have w1031 : (Xi T17 950 ((0 : Int).toNat)) = Xi T17 950 0 := rfl
      have e220 : (Xi T17 950 ((0 : Int).toNat)) = Xi S 950 0 := by first | rfl | exact (hFT17.cx 950 rfl _).1
      have w1032 : 0 ≤ Xi T17 904 106 ∧ Xi T17 904 106 ≤ 9 := hHT17.c _ _
      have w1033 : 0 ≤ Xi T17 904 108 ∧ Xi T17 904 108 ≤ 2600 := hHT17.c _ _
      have w1034 : -1 ≤ Xi T17 904 115 ∧ Xi T17 904 115 ≤ 15 := hHT17.c _ _
      have w1035 : -1 ≤ Xi T17 904 116 ∧ Xi T17 904 116 ≤ 15 := hHT17.c _ _
      have w1036 : 0 ≤ Xi T17 904 117 ∧ Xi T17 904 117 ≤ 480 := hHT17.c _ _
      have w1037 : 0 ≤ Xi T17 904 142 ∧ Xi T17 904 142 ≤ 4 := hHT17.c _ _
      have w1038 : -1 ≤ Xi T17 904 60 ∧ Xi T17 904 60 ≤ 23 := hHT17.c _ _
      have w1039 : 0 ≤ Xi T17 904 69 ∧ Xi T17 904 69 ≤ 2600 := hHT17.c _ _
      have w1040 : 0 ≤ Xi T17 904 70 ∧ Xi T17 904 70 ≤ 20 := hHT17.c _ _
      have w1041 : 0 ≤ Xi T17 904 71 ∧ Xi T17 904 71 ≤ 2600 := hHT17.c _ _
      have w1042 : 0 ≤ Xi T17 904 72 ∧ Xi T17 904 72 ≤ 2600 := hHT17.c _ _
      have w1043 : 0 ≤ Xi T17 904 73 ∧ Xi T17 904 73 ≤ 5 := hHT17.c _ _
      have w1044 : 0 ≤ Xi T17 904 74 ∧ Xi T17 904 74 ≤ 2600 := hHT17.c _ _
      have w1045 : -2 ≤ Xi T17 904 78 ∧ Xi T17 904 78 ≤ 5010 := hHT17.c _ _
      have w1046 : 0 ≤ Xi T17 904 81 ∧ Xi T17 904 81 ≤ 5010 := hHT17.c _ _
      have w1047 : 0 ≤ Xi T17 904 94 ∧ Xi T17 904 94 ≤ 1700 := hHT17.c _ _
      have w1048 : 0 ≤ Xi T17 904 98 ∧ Xi T17 904 98 ≤ 1700 := hHT17.c _ _
      refine l_callV rfl rfl rfl (t_mo_need hHT17 1 4 (Xi T17 950 ((0 : Int).toNat)) ⟨by omega, by omega⟩ ⟨by omega, by omega⟩ ⟨by omega, by omega⟩ _) ?_
      rintro _ T20 ⟨hHT20, w1052, rfl, w1049, w1050⟩
      have hFT20 : FR md_mo_asked S T20 := FR.tr hFT17 w1052 rfl
      show Rl _ _ _ _ _ [] _ _
      have w1053 : 0 ≤ Xi T20 904 106 ∧ Xi T20 904 106 ≤ 9 := hHT20.c _ _
      have w1054 : Xi T20 904 108 = Xi T17 904 108 := (show Xi T20 904 108 = Xi T17 904 108 from w1052.x _ _ rfl)
      have w1055 : 0 ≤ Xi T17 904 108 ∧ Xi T17 904 108 ≤ 2600 := hHT17.c _ _
      have w1056 : Xi T20 904 109 = Xi T17 904 109 := (show Xi T20 904 109 = Xi T17 904 109 from w1052.x _ _ rfl)
      have w1057 : Xi T20 904 115 = Xi T17 904 115 := (show Xi T20 904 115 = Xi T17 904 115 from w1052.x _ _ rfl)
      have w1058 : -1 ≤ Xi T17 904 115 ∧ Xi T17 904 115 ≤ 15 := hHT17.c _ _
      have w1059 : Xi T20 904 116 = Xi T17 904 116 := (show Xi T20 904 116 = Xi T17 904 116 from w1052.x _ _ rfl)
      have w1060 : -1 ≤ Xi T17 904 116 ∧ Xi T17 904 116 ≤ 15 := hHT17.c _ _
      have w1061 : Xi T20 904 117 = Xi T17 904 117 := (show Xi T20 904 117 = Xi T17 904 117 from w1052.x _ _ rfl)
      have w1062 : 0 ≤ Xi T17 904 117 ∧ Xi T17 904 117 ≤ 480 := hHT17.c _ _
      have w1063 : Xi T20 904 142 = Xi T17 904 142 := (show Xi T20 904 142 = Xi T17 904 142 from w1052.x _ _ rfl)
      have w1064 : 0 ≤ Xi T17 904 142 ∧ Xi T17 904 142 ≤ 4 := hHT17.c _ _
      have w1065 : Xi T20 904 60 = Xi T17 904 60 := (show Xi T20 904 60 = Xi T17 904 60 from w1052.x _ _ rfl)
      have w1066 : -1 ≤ Xi T17 904 60 ∧ Xi T17 904 60 ≤ 23 := hHT17.c _ _
      have w1067 : Xi T20 904 69 = Xi T17 904 69 := (show Xi T20 904 69 = Xi T17 904 69 from w1052.x _ _ rfl)
      have w1068 : 0 ≤ Xi T17 904 69 ∧ Xi T17 904 69 ≤ 2600 := hHT17.c _ _
      have w1069 : Xi T20 904 70 = Xi T17 904 70 := (show Xi T20 904 70 = Xi T17 904 70 from w1052.x _ _ rfl)
      have w1070 : 0 ≤ Xi T17 904 70 ∧ Xi T17 904 70 ≤ 20 := hHT17.c _ _
      have w1071 : Xi T20 904 71 = Xi T17 904 71 := (show Xi T20 904 71 = Xi T17 904 71 from w1052.x _ _ rfl)
      have w1072 : 0 ≤ Xi T17 904 71 ∧ Xi T17 904 71 ≤ 2600 := hHT17.c _ _
      have w1073 : Xi T20 904 72 = Xi T17 904 72 := (show Xi T20 904 72 = Xi T17 904 72 from w1052.x _ _ rfl)
      have w1074 : 0 ≤ Xi T17 904 72 ∧ Xi T17 904 72 ≤ 2600 := hHT17.c _ _
      have w1075 : Xi T20 904 73 = Xi T17 904 73 := (show Xi T20 904 73 = Xi T17 904 73 from w1052.x _ _ rfl)
      have w1076 : 0 ≤ Xi T17 904 73 ∧ Xi T17 904 73 ≤ 5 := hHT17.c _ _
      have w1077 : Xi T20 904 74 = Xi T17 904 74 := (show Xi T20 904 74 = Xi T17 904 74 from w1052.x _ _ rfl)
      have w1078 : 0 ≤ Xi T17 904 74 ∧ Xi T17 904 74 ≤ 2600 := hHT17.c _ _
      have w1079 : Xi T20 904 78 = Xi T17 904 78 := (show Xi T20 904 78 = Xi T17 904 78 from w1052.x _ _ rfl)
      have w1080 : -2 ≤ Xi T17 904 78 ∧ Xi T17 904 78 ≤ 5010 := hHT17.c _ _
      have w1081 : Xi T20 904 81 = Xi T17 904 81 := (show Xi T20 904 81 = Xi T17 904 81 from w1052.x _ _ rfl)
      have w1082 : 0 ≤ Xi T17 904 81 ∧ Xi T17 904 81 ≤ 5010 := hHT17.c _ _
      have w1083 : Xi T20 904 94 = Xi T17 904 94 := (show Xi T20 904 94 = Xi T17 904 94 from w1052.x _ _ rfl)
      have w1084 : 0 ≤ Xi T17 904 94 ∧ Xi T17 904 94 ≤ 1700 := hHT17.c _ _
      have w1085 : Xi T20 904 98 = Xi T17 904 98 := (show Xi T20 904 98 = Xi T17 904 98 from w1052.x _ _ rfl)
      have w1086 : 0 ≤ Xi T17 904 98 ∧ Xi T17 904 98 ≤ 1700 := hHT17.c _ _
      exact Rl_weak (C224 T20 hHT20 hFT20  (by omega) (by omega) (by omega) (by omega) (by omega) (by omega) (by omega) (by omega) (by omega) (by omega) (by omega) (by omega) (by first | assumption | exact fun k hk => absurd hk (by omega) | exact (NWV_FR w1052 rfl (by assumption : NWV T17))) (by first | assumption | exact (RDT_FR hHT17 w1052 rfl rfl rfl (by assumption : RDT T17))) (by omega) (by omega) (by omega) (by first | exact fun q => Or.inl (by omega) | exact fun q => Or.inr (by omega) | exact fun q => absurd q (by omega))) (And.intro rfl (True.intro))


