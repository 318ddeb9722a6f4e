/-! SAFETY of methods: printed by wip/safe (vc.py, decl.py) -/
/-! SAFETY of the reference: what asking leaves for telling -/
def D0 (T : sS) : Prop := 0 ≤ Xi T 904 60
def D1 (T : sS) : Prop := Xi T 904 55 ≤ 19 ∧ rnR T 0 11 ≠ -1
def D2 (T : sS) : Prop := Xi T 904 23 ≤ 23 ∧ Xi T 951 1 ≤ 3 ∧ rnR T 0 0 ≠ -1 ∧ (1 ≤ Xi T 904 94 ∧ Xi T 904 94 ≤ 6) ∧ TQA T True False (Xi T 904 117) (Xi T 904 94)
def D7 (T : sS) : Prop := Xi T 904 47 ≤ 7 ∧ rnR T 1 8 ≠ -1 ∧ Xi T 951 0 = 1
def D8 (T : sS) : Prop := Xi T 951 1 ≤ 3 ∧ (r2R T 0 0 1 ≠ -1 ∨ r2R T 0 2 3 ≠ -1)
def D9 (T : sS) : Prop := rnR T 0 7 ≠ -1 ∧ (rnR T 1 4 ≠ -1 ∨ rnR T 1 0 ≠ -1) ∧ OKT (Xi T 973 (Xi T 904 117).toNat) (Xi T 974 (Xi T 904 117).toNat)
def D10 (T : sS) : Prop := (Xi T 904 78 = -2 → Xi T 904 18 + Xi T 904 72 ≤ 8) ∧ (Xi T 904 78 ≠ -2 → Xi T 904 16 + Xi T 904 72 ≤ 16) ∧ (0 ≤ Xi T 904 78 → rnR T (Xi T 904 78) 0 ≠ -1) ∧ ∀ i : Int, 0 ≤ i → i < Xi T 904 72 → Xi T 951 (Xi T 904 71 + i).toNat ≤ 3
def D11 (T : sS) : Prop := Xi T 904 49 + Xi T 904 72 ≤ 12 ∧ (0 ≤ Xi T 904 78 → rnR T (Xi T 904 78) 0 ≠ -1) ∧ ∀ i : Int, 0 ≤ i → i < Xi T 904 72 → Xi T 951 (Xi T 904 71 + i).toNat ≤ 3
def D12 (T : sS) : Prop := ONA T ∧ (Xi T 904 110 < Xi T 904 16 ∧ ∀ i : Nat, (i : Int) < Xi T 904 112 → ADM T (Xi T 967 i)) ∧ (0 < Xi T 904 73 → rnR T (Xi T 904 74) 4 ≠ -1)
def D13 (T : sS) : Prop := ONA T ∧ (0 < Xi T 904 73 → rnR T (Xi T 904 74) 4 ≠ -1)
def D14 (T : sS) : Prop := (rnR T (Xi T 904 71) 4 = -1 → Xi T 904 19 < 24 ∧ Xi T 951 (Xi T 904 71).toNat ≤ 3) ∧ rnR T (Xi T 904 78) 12 ≠ -1 ∧ rnR T (Xi T 904 74) 4 ≠ -1
def D15 (T : sS) : Prop := (Xi T 904 142 = 1 → rnR T (Xi T 904 71) 0 ≠ -1 ∧ ADM T (Xi T 967 0)) ∧ (Xi T 904 142 = 2 → 1 < r2R T (Xi T 904 71) 2 3 ∧ cvR T (r2R T (Xi T 904 71) 2 3) (Xi T 904 30).toNat + (Xi T 904 69 - Xi T 904 78) ≤ 8 ∧ ∀ r : Int, Xi T 904 78 ≤ r → r < Xi T 904 69 → Xi T 951 r.toNat ≤ 3) ∧ (Xi T 904 142 = 3 → ONA T ∧ Xi T 904 110 < Xi T 904 16 ∧ ∀ i : Nat, (i : Int) < Xi T 904 112 → ADM T (Xi T 967 i)) ∧ (Xi T 904 142 ≠ 1 → Xi T 904 142 ≠ 2 → Xi T 904 142 ≠ 3 → AQ4 T)
def D17 (T : sS) : Prop := rnR T 0 0 ≠ -1 ∧ r2R T 1 2 3 ≠ -1 ∧ (rnR T 2 7 = -1 → Xi T 904 32 ≤ 11 ∧ Xi T 951 2 ≤ 3)
def D18 (T : sS) : Prop := rnR T 0 0 ≠ -1 ∧ Xi T 904 23 ≤ 22 ∧ Xi T 951 1 ≤ 3 ∧ Xi T 951 2 ≤ 3
def D19 (T : sS) : Prop := Xi T 904 41 ≤ 5 ∧ Xi T 951 0 ≤ 3 ∧ r2R T 1 0 1 ≠ -1 ∧ r2R T 2 0 1 ≠ -1
def DOK (T : sS) : Prop := (Xi T 904 70 = 0 → D0 T) ∧ (Xi T 904 70 = 1 → D1 T) ∧ (Xi T 904 70 = 2 → D2 T) ∧ (Xi T 904 70 = 7 → D7 T) ∧ (Xi T 904 70 = 8 → D8 T) ∧ (Xi T 904 70 = 9 → D9 T) ∧ (Xi T 904 70 = 10 → D10 T) ∧ (Xi T 904 70 = 11 → D11 T) ∧ (Xi T 904 70 = 12 → D12 T) ∧ (Xi T 904 70 = 13 → D13 T) ∧ (Xi T 904 70 = 14 → D14 T) ∧ (15 ≤ Xi T 904 70 ∧ Xi T 904 70 ≤ 16 → D15 T) ∧ (Xi T 904 70 = 17 → D17 T) ∧ (Xi T 904 70 = 18 → D18 T) ∧ (Xi T 904 70 = 19 → D19 T)
theorem dok_0 {T : sS} (e : Xi T 904 70 = 0) (h : D0 T) : DOK T := ⟨fun _ => h, fun q => absurd q (by omega), fun q => absurd q (by omega), fun q => absurd q (by omega), fun q => absurd q (by omega), fun q => absurd q (by omega), fun q => absurd q (by omega), fun q => absurd q (by omega), fun q => absurd q (by omega), fun q => absurd q (by omega), fun q => absurd q (by omega), fun q => absurd q (by omega), fun q => absurd q (by omega), fun q => absurd q (by omega), fun q => absurd q (by omega)⟩
theorem dok_1 {T : sS} (e : Xi T 904 70 = 1) (h : D1 T) : DOK T := ⟨fun q => absurd q (by omega), fun _ => h, fun q => absurd q (by omega), fun q => absurd q (by omega), fun q => absurd q (by omega), fun q => absurd q (by omega), fun q => absurd q (by omega), fun q => absurd q (by omega), fun q => absurd q (by omega), fun q => absurd q (by omega), fun q => absurd q (by omega), fun q => absurd q (by omega), fun q => absurd q (by omega), fun q => absurd q (by omega), fun q => absurd q (by omega)⟩
theorem dok_2 {T : sS} (e : Xi T 904 70 = 2) (h : D2 T) : DOK T := ⟨fun q => absurd q (by omega), fun q => absurd q (by omega), fun _ => h, fun q => absurd q (by omega), fun q => absurd q (by omega), fun q => absurd q (by omega), fun q => absurd q (by omega), fun q => absurd q (by omega), fun q => absurd q (by omega), fun q => absurd q (by omega), fun q => absurd q (by omega), fun q => absurd q (by omega), fun q => absurd q (by omega), fun q => absurd q (by omega), fun q => absurd q (by omega)⟩
theorem dok_7 {T : sS} (e : Xi T 904 70 = 7) (h : D7 T) : DOK T := ⟨fun q => absurd q (by omega), fun q => absurd q (by omega), fun q => absurd q (by omega), fun _ => h, fun q => absurd q (by omega), fun q => absurd q (by omega), fun q => absurd q (by omega), fun q => absurd q (by omega), fun q => absurd q (by omega), fun q => absurd q (by omega), fun q => absurd q (by omega), fun q => absurd q (by omega), fun q => absurd q (by omega), fun q => absurd q (by omega), fun q => absurd q (by omega)⟩
theorem dok_8 {T : sS} (e : Xi T 904 70 = 8) (h : D8 T) : DOK T := ⟨fun q => absurd q (by omega), fun q => absurd q (by omega), fun q => absurd q (by omega), fun q => absurd q (by omega), fun _ => h, fun q => absurd q (by omega), fun q => absurd q (by omega), fun q => absurd q (by omega), fun q => absurd q (by omega), fun q => absurd q (by omega), fun q => absurd q (by omega), fun q => absurd q (by omega), fun q => absurd q (by omega), fun q => absurd q (by omega), fun q => absurd q (by omega)⟩
theorem dok_9 {T : sS} (e : Xi T 904 70 = 9) (h : D9 T) : DOK T := ⟨fun q => absurd q (by omega), fun q => absurd q (by omega), fun q => absurd q (by omega), fun q => absurd q (by omega), fun q => absurd q (by omega), fun _ => h, fun q => absurd q (by omega), fun q => absurd q (by omega), fun q => absurd q (by omega), fun q => absurd q (by omega), fun q => absurd q (by omega), fun q => absurd q (by omega), fun q => absurd q (by omega), fun q => absurd q (by omega), fun q => absurd q (by omega)⟩
theorem dok_10 {T : sS} (e : Xi T 904 70 = 10) (h : D10 T) : DOK T := ⟨fun q => absurd q (by omega), fun q => absurd q (by omega), fun q => absurd q (by omega), fun q => absurd q (by omega), fun q => absurd q (by omega), fun q => absurd q (by omega), fun _ => h, fun q => absurd q (by omega), fun q => absurd q (by omega), fun q => absurd q (by omega), fun q => absurd q (by omega), fun q => absurd q (by omega), fun q => absurd q (by omega), fun q => absurd q (by omega), fun q => absurd q (by omega)⟩
theorem dok_11 {T : sS} (e : Xi T 904 70 = 11) (h : D11 T) : DOK T := ⟨fun q => absurd q (by omega), fun q => absurd q (by omega), fun q => absurd q (by omega), fun q => absurd q (by omega), fun q => absurd q (by omega), fun q => absurd q (by omega), fun q => absurd q (by omega), fun _ => h, fun q => absurd q (by omega), fun q => absurd q (by omega), fun q => absurd q (by omega), fun q => absurd q (by omega), fun q => absurd q (by omega), fun q => absurd q (by omega), fun q => absurd q (by omega)⟩
theorem dok_12 {T : sS} (e : Xi T 904 70 = 12) (h : D12 T) : DOK T := ⟨fun q => absurd q (by omega), fun q => absurd q (by omega), fun q => absurd q (by omega), fun q => absurd q (by omega), fun q => absurd q (by omega), fun q => absurd q (by omega), fun q => absurd q (by omega), fun q => absurd q (by omega), fun _ => h, fun q => absurd q (by omega), fun q => absurd q (by omega), fun q => absurd q (by omega), fun q => absurd q (by omega), fun q => absurd q (by omega), fun q => absurd q (by omega)⟩
theorem dok_13 {T : sS} (e : Xi T 904 70 = 13) (h : D13 T) : DOK T := ⟨fun q => absurd q (by omega), fun q => absurd q (by omega), fun q => absurd q (by omega), fun q => absurd q (by omega), fun q => absurd q (by omega), fun q => absurd q (by omega), fun q => absurd q (by omega), fun q => absurd q (by omega), fun q => absurd q (by omega), fun _ => h, fun q => absurd q (by omega), fun q => absurd q (by omega), fun q => absurd q (by omega), fun q => absurd q (by omega), fun q => absurd q (by omega)⟩
theorem dok_14 {T : sS} (e : Xi T 904 70 = 14) (h : D14 T) : DOK T := ⟨fun q => absurd q (by omega), fun q => absurd q (by omega), fun q => absurd q (by omega), fun q => absurd q (by omega), fun q => absurd q (by omega), fun q => absurd q (by omega), fun q => absurd q (by omega), fun q => absurd q (by omega), fun q => absurd q (by omega), fun q => absurd q (by omega), fun _ => h, fun q => absurd q (by omega), fun q => absurd q (by omega), fun q => absurd q (by omega), fun q => absurd q (by omega)⟩
theorem dok_15 {T : sS} (e : 15 ≤ Xi T 904 70 ∧ Xi T 904 70 ≤ 16) (h : D15 T) : DOK T := ⟨fun q => absurd q (by omega), fun q => absurd q (by omega), fun q => absurd q (by omega), fun q => absurd q (by omega), fun q => absurd q (by omega), fun q => absurd q (by omega), fun q => absurd q (by omega), fun q => absurd q (by omega), fun q => absurd q (by omega), fun q => absurd q (by omega), fun q => absurd q (by omega), fun _ => h, fun q => absurd q (by omega), fun q => absurd q (by omega), fun q => absurd q (by omega)⟩
theorem dok_17 {T : sS} (e : Xi T 904 70 = 17) (h : D17 T) : DOK T := ⟨fun q => absurd q (by omega), fun q => absurd q (by omega), fun q => absurd q (by omega), fun q => absurd q (by omega), fun q => absurd q (by omega), fun q => absurd q (by omega), fun q => absurd q (by omega), fun q => absurd q (by omega), fun q => absurd q (by omega), fun q => absurd q (by omega), fun q => absurd q (by omega), fun q => absurd q (by omega), fun _ => h, fun q => absurd q (by omega), fun q => absurd q (by omega)⟩
theorem dok_18 {T : sS} (e : Xi T 904 70 = 18) (h : D18 T) : DOK T := ⟨fun q => absurd q (by omega), fun q => absurd q (by omega), fun q => absurd q (by omega), fun q => absurd q (by omega), fun q => absurd q (by omega), fun q => absurd q (by omega), fun q => absurd q (by omega), fun q => absurd q (by omega), fun q => absurd q (by omega), fun q => absurd q (by omega), fun q => absurd q (by omega), fun q => absurd q (by omega), fun q => absurd q (by omega), fun _ => h, fun q => absurd q (by omega)⟩
theorem dok_19 {T : sS} (e : Xi T 904 70 = 19) (h : D19 T) : DOK T := ⟨fun q => absurd q (by omega), fun q => absurd q (by omega), fun q => absurd q (by omega), fun q => absurd q (by omega), fun q => absurd q (by omega), fun q => absurd q (by omega), fun q => absurd q (by omega), fun q => absurd q (by omega), fun q => absurd q (by omega), fun q => absurd q (by omega), fun q => absurd q (by omega), fun q => absurd q (by omega), fun q => absurd q (by omega), fun q => absurd q (by omega), fun _ => h⟩
theorem dok_3 {T : sS} (e : (3 ≤ Xi T 904 70 ∧ Xi T 904 70 ≤ 6) ∨ Xi T 904 70 = 20) : DOK T := ⟨fun q => absurd q (by omega), fun q => absurd q (by omega), fun q => absurd q (by omega), fun q => absurd q (by omega), fun q => absurd q (by omega), fun q => absurd q (by omega), fun q => absurd q (by omega), fun q => absurd q (by omega), fun q => absurd q (by omega), fun q => absurd q (by omega), fun q => absurd q (by omega), fun q => absurd q (by omega), fun q => absurd q (by omega), fun q => absurd q (by omega), fun q => absurd q (by omega)⟩
def AP9 (S : sS) (n : Nat) : Prop := (2 ≤ Xi S 904 70 → Xi S 904 70 ≤ 6 → TVA S n (Xi S 904 94)) ∧ (3 ≤ Xi S 904 70 → Xi S 904 70 ≤ 6 → PVA S n (Xi S 904 98)) ∧ (3 ≤ Xi S 904 70 → Xi S 904 70 ≤ 6 → Xi S 904 94 + Xi S 904 98 ≤ 1666) ∧ (Xi S 904 70 = 11 → -1 ≤ Xi S 904 78) ∧ (Xi S 904 70 = 2 → 1 ≤ Xi S 904 94)
def RDT (S : sS) : Prop := RULM S ∧ DEFM S ∧ TBX S
theorem rdt_keep {S T : sS} (h : RDT S) (hH : HI S) (g : GR T S) (e1 : Xi T 904 117 = Xi S 904 117) (e2 : Xi T 904 125 = Xi S 904 125) (e3 : Xi T 904 130 = Xi S 904 130) (ec : Xi T 904 23 = Xi S 904 23) (e : ∀ k, 978 ≤ k → k ≤ 987 → ∀ j, Xi T k j = Xi S k j) (kt : KQL T S (Xi S 904 117)) (kp : KHL T S (Xi S 904 125)) : RDT T := ⟨rul_keep h.1 h.2.2 hH g e3 e kt kp, def_keep h.2.1 h.2.2 hH g ec kt, tbx_keep h.2.2 hH e1 e2 e3 ec g e kp⟩
theorem RDT_FR {l : List rec} {S T : sS} (hH : HI S) (f : FR l S T) (e : (kdis l kGR && mD l jGR) = true) (e2 : kdis l [(969, 988)] = true) (e3 : mD l [117, 125, 130] = true) (h : RDT S) : RDT T := by
  have q := f.smk e2
  have y23 : Xi T 904 23 = Xi S 904 23 := by
    rw [Bool.and_eq_true] at e
    exact mD_x f e.2 23 (by decide)
  refine rdt_keep h hH (GR_FR f e GR.rf) (mD_x f e3 117 (by decide)) (mD_x f e3 125 (by decide)) (mD_x f e3 130 (by decide)) y23 (fun k a b j => ?_) (fun i _ k a b => ?_) (fun i _ => ⟨q.x 976 rfl i, q.x 977 rfl i⟩)
  · rcases (by omega : k = 978 ∨ k = 979 ∨ k = 980 ∨ k = 981 ∨ k = 982 ∨ k = 983 ∨ k = 984 ∨ k = 985 ∨ k = 986 ∨ k = 987) with h | h | h | h | h | h | h | h | h | h <;> subst h <;> exact q.x _ rfl j
  · rcases (by omega : k = 969 ∨ k = 970 ∨ k = 971 ∨ k = 972 ∨ k = 973 ∨ k = 974 ∨ k = 975) with h | h | h | h | h | h | h <;> subst h <;> exact q.x _ rfl i
theorem r2R_FR {l : List rec} {S T : sS} {r s u : Int} (h : FR l S T) (e : (kdis l kLX && mD l [15]) = true) (e2 : kdis l [(950, 952)] = true) : r2R T r s u = r2R S r s u := by
  unfold r2R
  rw [rnR_FR h e e2, rnR_FR h e e2]
theorem d15_i {l : List rec} {S T : sS} (h : FR l S T) (e : (((kdis l kLX && mD l [15]) && (kdis l [(950, 952)] && mD l [19, 71, 72])) && ((kdis l kAD && mD l [32]) && (kdis l [(918, 919)] && mD l [16, 23, 30, 69, 71, 72, 75, 78]))) = true) (p1 : Xi T 904 142 = 1 → rnR S (Xi S 904 71) 0 ≠ -1 ∧ ADM S (Xi T 967 0)) (p2 : Xi T 904 142 = 2 → 1 < r2R S (Xi S 904 71) 2 3 ∧ cvR S (r2R S (Xi S 904 71) 2 3) (Xi S 904 30).toNat + (Xi S 904 69 - Xi S 904 78) ≤ 8 ∧ ∀ r : Int, Xi S 904 78 ≤ r → r < Xi S 904 69 → Xi S 951 r.toNat ≤ 3) (p3 : Xi T 904 142 = 3 → ONA S ∧ Xi T 904 110 < Xi S 904 16 ∧ ∀ i : Nat, (i : Int) < Xi T 904 112 → ADM S (Xi T 967 i)) (p4 : Xi T 904 142 ≠ 1 → Xi T 904 142 ≠ 2 → Xi T 904 142 ≠ 3 → AQ4 S) : D15 T := by
  have e0 := e
  simp only [Bool.and_eq_true] at e
  obtain ⟨⟨⟨a1, a2⟩, b, c⟩, ⟨d1, d2⟩, f, g⟩ := e
  have a : (kdis l kLX && mD l [15]) = true := by rw [a1, a2]; rfl
  have o : ((kdis l kLX && mD l [15]) && (kdis l [(950, 952)] && mD l [19, 71, 72])) = true := by rw [a1, a2, b, c]; rfl
  have k := h.smk b
  have m := h.smk d1
  have x := fun j hj => mD_x h g j hj
  have ad : ∀ v, ADM S v → ADM T v := fun v t => adm_gr (Int.le_of_eq (x 23 (by decide)).symm) (Int.le_of_eq (mD_x h d2 32 (by decide)).symm) t
  refine ⟨fun q => ?_, fun q => ?_, fun q => ?_, fun q1 q2 q3 => ?_⟩
  · rw [rnR_FR h a b, x 71 (by decide)]
    exact ⟨(p1 q).1, ad _ (p1 q).2⟩
  · rw [r2R_FR h a b, x 71 (by decide), x 30 (by decide), x 69 (by decide), x 78 (by decide), cvR_k _ (fun j _ => m.x 927 rfl j)]
    have t := p2 q
    exact ⟨t.1, t.2.1, fun r u v => by rw [k.x 951 rfl]; exact t.2.2 r u v⟩
  · have t := p3 q
    rw [x 16 (by decide)]
    exact ⟨ona_fw h o t.1, t.2.1, fun i hi => ad _ (t.2.2 i hi)⟩
  · have y : mD l [71, 72, 75, 78] = true := by
      have z := g
      simp only [mD, List.all_cons, Bool.and_eq_true] at z ⊢
      obtain ⟨_, _, _, _, z1, z2, z3, z4, _⟩ := z
      exact ⟨z1, z2, z3, z4, rfl⟩
    exact AQ4_FR h (by rw [a1, a2, b, d1, d2, f, y]; rfl) (p4 q1 q2 q3)
theorem smk_r8 {l : List rec} {S T : sS} (f : FR l S T) (e : kdis l [(978, 988)] = true) (k : Nat) (a : 978 ≤ k) (b : k ≤ 987) (j : Nat) : Xi T k j = Xi S k j := by
  have q := f.smk e
  rcases (by omega : k = 978 ∨ k = 979 ∨ k = 980 ∨ k = 981 ∨ k = 982 ∨ k = 983 ∨ k = 984 ∨ k = 985 ∨ k = 986 ∨ k = 987) with h | h | h | h | h | h | h | h | h | h <;> subst h <;> exact q.x _ rfl _
def md_mo_asked : List rec := [(904, 905, 64, 65), (904, 905, 104, 105), (904, 905, 105, 106), (904, 905, 106, 107), (904, 905, 108, 109), (904, 905, 109, 110), (904, 905, 110, 111), (904, 905, 112, 113), (904, 905, 113, 114), (904, 905, 115, 116), (904, 905, 116, 117), (904, 905, 117, 118), (904, 905, 125, 126), (904, 905, 128, 129), (904, 905, 129, 130), (904, 905, 130, 131), (904, 905, 142, 143), (904, 905, 144, 145), (904, 905, 146, 147), (904, 905, 147, 148), (904, 905, 150, 151), (904, 905, 151, 152), (904, 905, 153, 154), (904, 905, 154, 155), (904, 905, 156, 157), (904, 905, 157, 158), (904, 905, 158, 159), (904, 905, 160, 161), (966, 967, 0, 100000), (967, 968, 0, 100000), (968, 969, 0, 100000), (969, 970, 0, 100000), (970, 971, 0, 100000), (971, 972, 0, 100000), (972, 973, 0, 100000), (973, 974, 0, 100000), (974, 975, 0, 100000), (975, 976, 0, 100000), (976, 977, 0, 100000), (977, 978, 0, 100000), (978, 979, 0, 100000), (979, 980, 0, 100000), (980, 981, 0, 100000), (981, 982, 0, 100000), (982, 983, 0, 100000), (983, 984, 0, 100000), (984, 985, 0, 100000), (985, 986, 0, 100000), (986, 987, 0, 100000), (987, 988, 0, 100000), (988, 989, 0, 100000), (989, 990, 0, 100000), (990, 991, 0, 100000), (991, 992, 0, 100000), (992, 993, 0, 100000), (993, 994, 0, 100000), (994, 995, 0, 100000)]
abbrev Q_mo_asked (S : sS) (n : Nat) (dd : Nat) (first : Int) : pst := fun r S1 => HI S1 ∧ FR md_mo_asked S S1 ∧ (r = none ∧ (Xi S1 904 106 = 0 → DOK S1) ∧ (Xi S1 904 106 = 0 → RDT S1))
set_option maxRecDepth 100000 in
set_option maxHeartbeats 8000000 in
theorem c526_mo_asked {S : sS} (hH : HI S) (n : Nat) (dd : Nat) (first : Int) (hfirst : 0 ≤ first ∧ first ≤ 5001) (hT : TK S n) (hv : RNV S n) (hM : LXM S) (hB : ABV S) (hC : DCM S) (hK : TXK S n) (hX : TXM S) (hq : SNQ S n) (hap : AP9 S n) (h94 : Xi S 904 94 ≤ 1668) (hRD : RDT S) (hPF : PF S) (hdt : Xi S 904 70 = 20 → first ≤ dd ∧ dd < n ∧ Xi S 907 dd = 46) (d : Nat) : ∀  (T1 : sS) (_ : HI T1) (_ : FR md_mo_asked S T1), (Xi T1 904 117 = Xi S 904 117) → (Xi T1 904 60 = Xi S 904 60) → (Xi T1 904 69 = Xi S 904 69) → (Xi T1 904 70 = Xi S 904 70) → (Xi T1 904 71 = Xi S 904 71) → (Xi T1 904 72 = Xi S 904 72) → (Xi T1 904 73 = Xi S 904 73) → (Xi T1 904 74 = Xi S 904 74) → (Xi T1 904 78 = Xi S 904 78) → (Xi T1 904 81 = Xi S 904 81) → (Xi T1 904 94 = Xi S 904 94) → (Xi T1 904 98 = Xi S 904 98) → (NWV T1) → (RDT T1) → (3 ≤ Xi S 904 70 ∧ Xi S 904 70 ≤ 6) → (SNQ T1 n) → Rl lay0 (d + 12) m_mo_asked 526 [(0, .ref 904), (1, iv first)] [] T1 (Q_mo_asked S n dd first) := by
  have hF : FR md_mo_asked S S := FR.rf
  have w1 : 0 ≤ Xi S 904 106 ∧ Xi S 904 106 ≤ 9 := hH.c _ _
  have w2 : 0 ≤ Xi S 904 108 ∧ Xi S 904 108 ≤ 2600 := hH.c _ _
  have w3 : -1 ≤ Xi S 904 115 ∧ Xi S 904 115 ≤ 15 := hH.c _ _
  have w4 : -1 ≤ Xi S 904 116 ∧ Xi S 904 116 ≤ 15 := hH.c _ _
  have w5 : 0 ≤ Xi S 904 117 ∧ Xi S 904 117 ≤ 480 := hH.c _ _
  have w6 : 0 ≤ Xi S 904 23 ∧ Xi S 904 23 ≤ 24 := hH.c _ _
  have w7 : 0 ≤ Xi S 904 41 ∧ Xi S 904 41 ≤ 6 := hH.c _ _
  have w8 : -1 ≤ Xi S 904 60 ∧ Xi S 904 60 ≤ 23 := hH.c _ _
  have w9 : 0 ≤ Xi S 904 69 ∧ Xi S 904 69 ≤ 2600 := hH.c _ _
  have w10 : 0 ≤ Xi S 904 70 ∧ Xi S 904 70 ≤ 20 := hH.c _ _
  have w11 : 0 ≤ Xi S 904 71 ∧ Xi S 904 71 ≤ 2600 := hH.c _ _
  have w12 : 0 ≤ Xi S 904 72 ∧ Xi S 904 72 ≤ 2600 := hH.c _ _
  have w13 : 0 ≤ Xi S 904 73 ∧ Xi S 904 73 ≤ 5 := hH.c _ _
  have w14 : 0 ≤ Xi S 904 74 ∧ Xi S 904 74 ≤ 2600 := hH.c _ _
  have w15 : -2 ≤ Xi S 904 78 ∧ Xi S 904 78 ≤ 5010 := hH.c _ _
  have w16 : 0 ≤ Xi S 904 81 ∧ Xi S 904 81 ≤ 5010 := hH.c _ _
  have w17 : 0 ≤ Xi S 904 94 ∧ Xi S 904 94 ≤ 1700 := hH.c _ _
  have w18 : 0 ≤ Xi S 904 98 ∧ Xi S 904 98 ≤ 1700 := hH.c _ _
  have w19 : 0 ≤ Xi S 951 0 ∧ Xi S 951 0 ≤ 5010 := hH.c _ _
  have w20 : 0 ≤ Xi S 951 1 ∧ Xi S 951 1 ≤ 5010 := hH.c _ _
  have hn5 := hT.1
  have hc69 : 0 ≤ Xi S 904 69 ∧ Xi S 904 69 ≤ 2600 := hH.c _ _
  have hc70 : 0 ≤ Xi S 904 70 ∧ Xi S 904 70 ≤ 20 := hH.c _ _
  have hc23 : 0 ≤ Xi S 904 23 ∧ Xi S 904 23 ≤ 24 := hH.c _ _
  have hrf : ∀ r : Int, 0 ≤ r → r < Xi S 904 69 → Xi S 950 r.toNat + Xi S 951 r.toNat ≤ n ∧ 1 ≤ Xi S 951 r.toNat := fun r a b => hv r.toNat (by omega)
  have hq0 : KQL S S (Xi S 904 117) := KQL.rf
  intro T1 hHT1 hFT1 w21 w22 w23 w24 w25 w26 w27 w28 w29 w30 w31 w32 N526 R526 w33 q526
  have w34 : Xi T1 904 102 = Xi S 904 102 := hFT1.x _ _ rfl
  have w35 : Xi T1 904 103 = Xi S 904 103 := hFT1.x _ _ rfl
  have w36 : Xi T1 904 16 = Xi S 904 16 := hFT1.x _ _ rfl
  have w37 : Xi T1 904 18 = Xi S 904 18 := hFT1.x _ _ rfl
  have w38 : Xi T1 904 19 = Xi S 904 19 := hFT1.x _ _ rfl
  have w39 : Xi T1 904 23 = Xi S 904 23 := hFT1.x _ _ rfl
  have w40 : Xi T1 904 30 = Xi S 904 30 := hFT1.x _ _ rfl
  have w41 : Xi T1 904 41 = Xi S 904 41 := hFT1.x _ _ rfl
  have w42 : Xi T1 904 47 = Xi S 904 47 := hFT1.x _ _ rfl
  have w43 : Xi T1 904 49 = Xi S 904 49 := hFT1.x _ _ rfl
  have w44 : Xi T1 904 55 = Xi S 904 55 := hFT1.x _ _ rfl
  have w45 : Xi T1 904 60 = Xi S 904 60 := hFT1.x _ _ rfl
  have w46 : Xi T1 904 69 = Xi S 904 69 := hFT1.x _ _ rfl
  have w47 : Xi T1 904 70 = Xi S 904 70 := hFT1.x _ _ rfl
  have w48 : Xi T1 904 71 = Xi S 904 71 := hFT1.x _ _ rfl
  have w49 : Xi T1 904 72 = Xi S 904 72 := hFT1.x _ _ rfl
  have w50 : Xi T1 904 73 = Xi S 904 73 := hFT1.x _ _ rfl
  have w51 : Xi T1 904 74 = Xi S 904 74 := hFT1.x _ _ rfl
  have w52 : Xi T1 904 78 = Xi S 904 78 := hFT1.x _ _ rfl
  have w53 : Xi T1 904 81 = Xi S 904 81 := hFT1.x _ _ rfl
  have w54 : Xi T1 904 94 = Xi S 904 94 := hFT1.x _ _ rfl
  have w55 : Xi T1 904 98 = Xi S 904 98 := hFT1.x _ _ rfl
  have w56 : Xi T1 951 0 = Xi S 951 0 := hFT1.x _ _ rfl
  have w57 : Xi T1 951 1 = Xi S 951 1 := hFT1.x _ _ rfl
  have w58 : 0 ≤ Xi T1 904 117 ∧ Xi T1 904 117 ≤ 480 := hHT1.c _ _
  have w59 : -1 ≤ Xi T1 904 60 ∧ Xi T1 904 60 ≤ 23 := hHT1.c _ _
  have w60 : 0 ≤ Xi T1 904 69 ∧ Xi T1 904 69 ≤ 2600 := hHT1.c _ _
  have w61 : 0 ≤ Xi T1 904 70 ∧ Xi T1 904 70 ≤ 20 := hHT1.c _ _
  have w62 : 0 ≤ Xi T1 904 71 ∧ Xi T1 904 71 ≤ 2600 := hHT1.c _ _
  have w63 : 0 ≤ Xi T1 904 72 ∧ Xi T1 904 72 ≤ 2600 := hHT1.c _ _
  have w64 : 0 ≤ Xi T1 904 73 ∧ Xi T1 904 73 ≤ 5 := hHT1.c _ _
  have w65 : 0 ≤ Xi T1 904 74 ∧ Xi T1 904 74 ≤ 2600 := hHT1.c _ _
  have w66 : -2 ≤ Xi T1 904 78 ∧ Xi T1 904 78 ≤ 5010 := hHT1.c _ _
  have w67 : 0 ≤ Xi T1 904 81 ∧ Xi T1 904 81 ≤ 5010 := hHT1.c _ _
  have w68 : 0 ≤ Xi T1 904 94 ∧ Xi T1 904 94 ≤ 1700 := hHT1.c _ _
  have w69 : 0 ≤ Xi T1 904 98 ∧ Xi T1 904 98 ≤ 1700 := hHT1.c _ _
  refine l_aload_n rfl rfl ?_
  have s526 : Xi T1 904 70 ≠ 6 → Xi T1 904 102 < Xi T1 904 69 ∧ Xi T1 904 103 < Xi T1 904 69 := fun h => q526.2.2.2.1 (by omega)
  have v526 := hap.1 (by omega) (by omega)
  have w526 := hap.2.1 (by omega) (by omega)
  have x526 := hap.2.2.1 (by omega) (by omega)
  refine l_iload_n rfl rfl ?_
  have w70 : 0 ≤ Xi T1 904 102 ∧ Xi T1 904 102 ≤ 2600 := hHT1.c _ _
  have w71 : -1 ≤ Xi T1 904 103 ∧ Xi T1 904 103 ≤ 2600 := hHT1.c _ _
  have w72 : 0 ≤ Xi T1 904 106 ∧ Xi T1 904 106 ≤ 9 := hHT1.c _ _
  have w73 : 0 ≤ Xi T1 904 108 ∧ Xi T1 904 108 ≤ 2600 := hHT1.c _ _
  have w74 : -1 ≤ Xi T1 904 115 ∧ Xi T1 904 115 ≤ 15 := hHT1.c _ _
  have w75 : -1 ≤ Xi T1 904 116 ∧ Xi T1 904 116 ≤ 15 := hHT1.c _ _
  have w77 : 0 ≤ Xi T1 904 142 ∧ Xi T1 904 142 ≤ 4 := hHT1.c _ _
  refine l_callV rfl rfl rfl (t_mo_ruleMeant hHT1 n first ⟨by omega, by omega⟩ (by first | assumption | exact (TK_FR hFT1 rfl (by assumption : TK S _))) (by first | assumption | exact (RNV_FR hFT1 rfl (by assumption : RNV S _))) (by first | assumption | exact (LXM_FR hFT1 rfl (by assumption : LXM S))) (by first | assumption | exact (ABV_FR hFT1 rfl (by assumption : ABV S))) (by first | assumption | exact (DCM_FR hFT1 rfl (by assumption : DCM S))) (by first | assumption | exact (TXK_FR hFT1 rfl (by assumption : TXK S _))) (by first | assumption | exact (TXM_FR hFT1 rfl (by assumption : TXM S))) (by first | assumption | omega) (by rw [show Xi T1 904 94 = Xi S 904 94 by omega]; exact TVA_FR hFT1 rfl v526) (by first | assumption | omega) (by rw [show Xi T1 904 98 = Xi S 904 98 by omega]; exact PVA_FR hH hFT1 rfl w526) (by first | assumption | omega) (R526.1) (R526.2.2) (by first | assumption | omega) (by first | assumption | exact (PF_FR hFT1 rfl (by assumption : PF S))) _) ?_
  rintro _ T2 ⟨hHT2, w90, rfl, b528⟩
  have hFT2 : FR md_mo_asked S T2 := FR.tr hFT1 w90 rfl
  show Rl _ _ _ _ _ [] _ _
  have y528_69 : Xi T2 904 69 = Xi T1 904 69 := ((show Xi T2 904 69 = Xi T1 904 69 from w90.x _ _ rfl))
  have y528_70 : Xi T2 904 70 = Xi T1 904 70 := ((show Xi T2 904 70 = Xi T1 904 70 from w90.x _ _ rfl))
  have y528_71 : Xi T2 904 71 = Xi T1 904 71 := ((show Xi T2 904 71 = Xi T1 904 71 from w90.x _ _ rfl))
  have y528_72 : Xi T2 904 72 = Xi T1 904 72 := ((show Xi T2 904 72 = Xi T1 904 72 from w90.x _ _ rfl))
  have y528_73 : Xi T2 904 73 = Xi T1 904 73 := ((show Xi T2 904 73 = Xi T1 904 73 from w90.x _ _ rfl))
  have y528_74 : Xi T2 904 74 = Xi T1 904 74 := ((show Xi T2 904 74 = Xi T1 904 74 from w90.x _ _ rfl))
  have y528_78 : Xi T2 904 78 = Xi T1 904 78 := ((show Xi T2 904 78 = Xi T1 904 78 from w90.x _ _ rfl))
  have y528_81 : Xi T2 904 81 = Xi T1 904 81 := ((show Xi T2 904 81 = Xi T1 904 81 from w90.x _ _ rfl))
  have y528_94 : Xi T2 904 94 = Xi T1 904 94 := ((show Xi T2 904 94 = Xi T1 904 94 from w90.x _ _ rfl))
  have y528_98 : Xi T2 904 98 = Xi T1 904 98 := ((show Xi T2 904 98 = Xi T1 904 98 from w90.x _ _ rfl))
  have y528_60 : Xi T2 904 60 = Xi T1 904 60 := ((show Xi T2 904 60 = Xi T1 904 60 from w90.x _ _ rfl))
  have F528 : Xi T2 904 106 = 0 → DOK T2 := fun q => dok_3 (by omega)
  have R528 : Xi T2 904 106 = 0 → RDT T2 := fun q => (by obtain ⟨⟨a, b⟩, c, e⟩ := b528 q; exact ⟨a, def_keep R526.2.1 R526.2.2 hHT1 c ((by assumption : FR md_mo_ruleMeant T1 T2).x 904 23 rfl) e, b⟩)
  refine l_return rfl rfl ?_
  have w91 : 0 ≤ Xi T2 904 106 ∧ Xi T2 904 106 ≤ 9 := hHT2.c _ _
  exact ⟨hHT2, hFT2, rfl, (by assumption), (by first | exact fun q => by assumption | assumption | exact fun q => (by assumption : RDT T2))⟩
set_option maxRecDepth 100000 in
set_option maxHeartbeats 8000000 in
theorem c124_mo_asked {S : sS} (hH : HI S) (n : Nat) (dd : Nat) (first : Int) (hfirst : 0 ≤ first ∧ first ≤ 5001) (hT : TK S n) (hv : RNV S n) (hM : LXM S) (hB : ABV S) (hC : DCM S) (hK : TXK S n) (hX : TXM S) (hq : SNQ S n) (hap : AP9 S n) (h94 : Xi S 904 94 ≤ 1668) (hRD : RDT S) (hPF : PF S) (hdt : Xi S 904 70 = 20 → first ≤ dd ∧ dd < n ∧ Xi S 907 dd = 46) (d : Nat) : ∀  (T3 : sS) (_ : HI T3) (_ : FR md_mo_asked S T3), (Xi T3 904 117 = Xi S 904 117) → (Xi T3 904 69 = Xi S 904 69) → (Xi T3 904 70 = Xi S 904 70) → (Xi T3 904 71 = Xi S 904 71) → (Xi T3 904 72 = Xi S 904 72) → (Xi T3 904 73 = Xi S 904 73) → (Xi T3 904 74 = Xi S 904 74) → (Xi T3 904 78 = Xi S 904 78) → (Xi T3 904 81 = Xi S 904 81) → (Xi T3 904 94 = Xi S 904 94) → (Xi T3 904 98 = Xi S 904 98) → (Xi T3 904 60 = Xi S 904 60) → (Xi T3 904 106 = 0) → (Xi T3 904 108 = 0) → (Xi T3 904 115 = -1) → (Xi T3 904 116 = -1) → (SNQ T3 n) → (RDT T3) → (KQL T3 S (Xi S 904 117)) → (Xi S 904 70 = 0) → Rl lay0 (d + 12) m_mo_asked 124 [(0, .ref 904)] [] T3 (Q_mo_asked S n dd first) := by
  have hF : FR md_mo_asked S S := FR.rf
  have w1 : 0 ≤ Xi S 904 106 ∧ Xi S 904 106 ≤ 9 := hH.c _ _
  have w2 : 0 ≤ Xi S 904 108 ∧ Xi S 904 108 ≤ 2600 := hH.c _ _
  have w3 : -1 ≤ Xi S 904 115 ∧ Xi S 904 115 ≤ 15 := hH.c _ _
  have w4 : -1 ≤ Xi S 904 116 ∧ Xi S 904 116 ≤ 15 := hH.c _ _
  have w5 : 0 ≤ Xi S 904 117 ∧ Xi S 904 117 ≤ 480 := hH.c _ _
  have w6 : 0 ≤ Xi S 904 23 ∧ Xi S 904 23 ≤ 24 := hH.c _ _
  have w7 : 0 ≤ Xi S 904 41 ∧ Xi S 904 41 ≤ 6 := hH.c _ _
  have w8 : -1 ≤ Xi S 904 60 ∧ Xi S 904 60 ≤ 23 := hH.c _ _
  have w9 : 0 ≤ Xi S 904 69 ∧ Xi S 904 69 ≤ 2600 := hH.c _ _
  have w10 : 0 ≤ Xi S 904 70 ∧ Xi S 904 70 ≤ 20 := hH.c _ _
  have w11 : 0 ≤ Xi S 904 71 ∧ Xi S 904 71 ≤ 2600 := hH.c _ _
  have w12 : 0 ≤ Xi S 904 72 ∧ Xi S 904 72 ≤ 2600 := hH.c _ _
  have w13 : 0 ≤ Xi S 904 73 ∧ Xi S 904 73 ≤ 5 := hH.c _ _
  have w14 : 0 ≤ Xi S 904 74 ∧ Xi S 904 74 ≤ 2600 := hH.c _ _
  have w15 : -2 ≤ Xi S 904 78 ∧ Xi S 904 78 ≤ 5010 := hH.c _ _
  have w16 : 0 ≤ Xi S 904 81 ∧ Xi S 904 81 ≤ 5010 := hH.c _ _
  have w17 : 0 ≤ Xi S 904 94 ∧ Xi S 904 94 ≤ 1700 := hH.c _ _
  have w18 : 0 ≤ Xi S 904 98 ∧ Xi S 904 98 ≤ 1700 := hH.c _ _
  have w19 : 0 ≤ Xi S 951 0 ∧ Xi S 951 0 ≤ 5010 := hH.c _ _
  have w20 : 0 ≤ Xi S 951 1 ∧ Xi S 951 1 ≤ 5010 := hH.c _ _
  have hn5 := hT.1
  have hc69 : 0 ≤ Xi S 904 69 ∧ Xi S 904 69 ≤ 2600 := hH.c _ _
  have hc70 : 0 ≤ Xi S 904 70 ∧ Xi S 904 70 ≤ 20 := hH.c _ _
  have hc23 : 0 ≤ Xi S 904 23 ∧ Xi S 904 23 ≤ 24 := hH.c _ _
  have hrf : ∀ r : Int, 0 ≤ r → r < Xi S 904 69 → Xi S 950 r.toNat + Xi S 951 r.toNat ≤ n ∧ 1 ≤ Xi S 951 r.toNat := fun r a b => hv r.toNat (by omega)
  have hq0 : KQL S S (Xi S 904 117) := KQL.rf
  intro T3 hHT3 hFT3 w121 w122 w123 w124 w125 w126 w127 w128 w129 w130 w131 w132 w133 w134 w135 w136 q20 r20 K20 w137
  have w138 : Xi T3 904 102 = Xi S 904 102 := hFT3.x _ _ rfl
  have w139 : Xi T3 904 103 = Xi S 904 103 := hFT3.x _ _ rfl
  have w140 : Xi T3 904 16 = Xi S 904 16 := hFT3.x _ _ rfl
  have w141 : Xi T3 904 18 = Xi S 904 18 := hFT3.x _ _ rfl
  have w142 : Xi T3 904 19 = Xi S 904 19 := hFT3.x _ _ rfl
  have w143 : Xi T3 904 23 = Xi S 904 23 := hFT3.x _ _ rfl
  have w144 : Xi T3 904 30 = Xi S 904 30 := hFT3.x _ _ rfl
  have w145 : Xi T3 904 41 = Xi S 904 41 := hFT3.x _ _ rfl
  have w146 : Xi T3 904 47 = Xi S 904 47 := hFT3.x _ _ rfl
  have w147 : Xi T3 904 49 = Xi S 904 49 := hFT3.x _ _ rfl
  have w148 : Xi T3 904 55 = Xi S 904 55 := hFT3.x _ _ rfl
  have w149 : Xi T3 904 60 = Xi S 904 60 := hFT3.x _ _ rfl
  have w150 : Xi T3 904 69 = Xi S 904 69 := hFT3.x _ _ rfl
  have w151 : Xi T3 904 70 = Xi S 904 70 := hFT3.x _ _ rfl
  have w152 : Xi T3 904 71 = Xi S 904 71 := hFT3.x _ _ rfl
  have w153 : Xi T3 904 72 = Xi S 904 72 := hFT3.x _ _ rfl
  have w154 : Xi T3 904 73 = Xi S 904 73 := hFT3.x _ _ rfl
  have w155 : Xi T3 904 74 = Xi S 904 74 := hFT3.x _ _ rfl
  have w156 : Xi T3 904 78 = Xi S 904 78 := hFT3.x _ _ rfl
  have w157 : Xi T3 904 81 = Xi S 904 81 := hFT3.x _ _ rfl
  have w158 : Xi T3 904 94 = Xi S 904 94 := hFT3.x _ _ rfl
  have w159 : Xi T3 904 98 = Xi S 904 98 := hFT3.x _ _ rfl
  have w160 : Xi T3 951 0 = Xi S 951 0 := hFT3.x _ _ rfl
  have w161 : Xi T3 951 1 = Xi S 951 1 := hFT3.x _ _ rfl
  have w162 : 0 ≤ Xi T3 904 106 ∧ Xi T3 904 106 ≤ 9 := hHT3.c _ _
  have w163 : 0 ≤ Xi T3 904 108 ∧ Xi T3 904 108 ≤ 2600 := hHT3.c _ _
  have w164 : -1 ≤ Xi T3 904 115 ∧ Xi T3 904 115 ≤ 15 := hHT3.c _ _
  have w165 : -1 ≤ Xi T3 904 116 ∧ Xi T3 904 116 ≤ 15 := hHT3.c _ _
  have w166 : 0 ≤ Xi T3 904 117 ∧ Xi T3 904 117 ≤ 480 := hHT3.c _ _
  have w167 : -1 ≤ Xi T3 904 60 ∧ Xi T3 904 60 ≤ 23 := hHT3.c _ _
  have w168 : 0 ≤ Xi T3 904 69 ∧ Xi T3 904 69 ≤ 2600 := hHT3.c _ _
  have w169 : 0 ≤ Xi T3 904 70 ∧ Xi T3 904 70 ≤ 20 := hHT3.c _ _
  have w170 : 0 ≤ Xi T3 904 71 ∧ Xi T3 904 71 ≤ 2600 := hHT3.c _ _
  have w171 : 0 ≤ Xi T3 904 72 ∧ Xi T3 904 72 ≤ 2600 := hHT3.c _ _
  have w172 : 0 ≤ Xi T3 904 73 ∧ Xi T3 904 73 ≤ 5 := hHT3.c _ _
  have w173 : 0 ≤ Xi T3 904 74 ∧ Xi T3 904 74 ≤ 2600 := hHT3.c _ _
  have w174 : -2 ≤ Xi T3 904 78 ∧ Xi T3 904 78 ≤ 5010 := hHT3.c _ _
  have w175 : 0 ≤ Xi T3 904 81 ∧ Xi T3 904 81 ≤ 5010 := hHT3.c _ _
  have w176 : 0 ≤ Xi T3 904 94 ∧ Xi T3 904 94 ≤ 1700 := hHT3.c _ _
  have w177 : 0 ≤ Xi T3 904 98 ∧ Xi T3 904 98 ≤ 1700 := hHT3.c _ _
  refine l_aload_n rfl rfl ?_
  have s124 := q20.1 (by omega)
  refine l_aload_n rfl rfl ?_
  refine l_gfi rfl rfl rfl rfl rfl ?_
  refine l_iconst rfl ?_
  refine l_icmp_eq rfl rfl (by unfold rg; omega) (by unfold rg; omega) (fun w178 => ?_) (fun w179 => ?_)
  · refine l_iconst rfl ?_
    refine l_iconst rfl ?_
    refine l_aload_n rfl rfl ?_
    refine l_gfi rfl rfl rfl rfl rfl ?_
    have w185 : 0 ≤ Xi T3 904 142 ∧ Xi T3 904 142 ≤ 4 := hHT3.c _ _
    refine l_callV rfl rfl rfl (t_mo_need hHT3 0 4 (Xi T3 904 81) ⟨by omega, by omega⟩ ⟨by omega, by omega⟩ ⟨by omega, by omega⟩ _) ?_
    rintro _ T4 ⟨hHT4, w200, rfl, w197, w198⟩
    have hFT4 : FR md_mo_asked S T4 := FR.tr hFT3 w200 rfl
    show Rl _ _ _ _ _ [] _ _
    have y143_69 : Xi T4 904 69 = Xi T3 904 69 := ((show Xi T4 904 69 = Xi T3 904 69 from w200.x _ _ rfl))
    have y143_70 : Xi T4 904 70 = Xi T3 904 70 := ((show Xi T4 904 70 = Xi T3 904 70 from w200.x _ _ rfl))
    have y143_71 : Xi T4 904 71 = Xi T3 904 71 := ((show Xi T4 904 71 = Xi T3 904 71 from w200.x _ _ rfl))
    have y143_72 : Xi T4 904 72 = Xi T3 904 72 := ((show Xi T4 904 72 = Xi T3 904 72 from w200.x _ _ rfl))
    have y143_73 : Xi T4 904 73 = Xi T3 904 73 := ((show Xi T4 904 73 = Xi T3 904 73 from w200.x _ _ rfl))
    have y143_74 : Xi T4 904 74 = Xi T3 904 74 := ((show Xi T4 904 74 = Xi T3 904 74 from w200.x _ _ rfl))
    have y143_78 : Xi T4 904 78 = Xi T3 904 78 := ((show Xi T4 904 78 = Xi T3 904 78 from w200.x _ _ rfl))
    have y143_81 : Xi T4 904 81 = Xi T3 904 81 := ((show Xi T4 904 81 = Xi T3 904 81 from w200.x _ _ rfl))
    have y143_94 : Xi T4 904 94 = Xi T3 904 94 := ((show Xi T4 904 94 = Xi T3 904 94 from w200.x _ _ rfl))
    have y143_98 : Xi T4 904 98 = Xi T3 904 98 := ((show Xi T4 904 98 = Xi T3 904 98 from w200.x _ _ rfl))
    have y143_60 : Xi T4 904 60 = Xi T3 904 60 := ((show Xi T4 904 60 = Xi T3 904 60 from w200.x _ _ rfl))
    have y143_117 : Xi T4 904 117 = Xi T3 904 117 := ((show Xi T4 904 117 = Xi T3 904 117 from w200.x _ _ rfl))
    have F143 : Xi T4 904 106 = 0 → DOK T4 := fun q => dok_0 (by omega) (by unfold D0; omega)
    refine l_goto rfl rfl ?_
    refine l_return rfl rfl ?_
    have w201 : 0 ≤ Xi T4 904 106 ∧ Xi T4 904 106 ≤ 9 := hHT4.c _ _
    exact ⟨hHT4, hFT4, rfl, (by assumption), (by first | exact fun q => by assumption | assumption | exact fun q => (RDT_FR hHT3 w200 rfl rfl rfl (by assumption : RDT T3)))⟩
  · refine l_iconst rfl ?_
    refine l_goto rfl rfl ?_
    refine l_iconst rfl ?_
    refine l_aload_n rfl rfl ?_
    refine l_gfi rfl rfl rfl rfl rfl ?_
    have w240 : 0 ≤ Xi T3 904 142 ∧ Xi T3 904 142 ≤ 4 := hHT3.c _ _
    refine l_callV rfl rfl rfl (t_mo_need hHT3 1 4 (Xi T3 904 81) ⟨by omega, by omega⟩ ⟨by omega, by omega⟩ ⟨by omega, by omega⟩ _) ?_
    rintro _ T5 ⟨hHT5, w255, rfl, w252, w253⟩
    have hFT5 : FR md_mo_asked S T5 := FR.tr hFT3 w255 rfl
    show Rl _ _ _ _ _ [] _ _
    have y143_69 : Xi T5 904 69 = Xi T3 904 69 := ((show Xi T5 904 69 = Xi T3 904 69 from w255.x _ _ rfl))
    have y143_70 : Xi T5 904 70 = Xi T3 904 70 := ((show Xi T5 904 70 = Xi T3 904 70 from w255.x _ _ rfl))
    have y143_71 : Xi T5 904 71 = Xi T3 904 71 := ((show Xi T5 904 71 = Xi T3 904 71 from w255.x _ _ rfl))
    have y143_72 : Xi T5 904 72 = Xi T3 904 72 := ((show Xi T5 904 72 = Xi T3 904 72 from w255.x _ _ rfl))
    have y143_73 : Xi T5 904 73 = Xi T3 904 73 := ((show Xi T5 904 73 = Xi T3 904 73 from w255.x _ _ rfl))
    have y143_74 : Xi T5 904 74 = Xi T3 904 74 := ((show Xi T5 904 74 = Xi T3 904 74 from w255.x _ _ rfl))
    have y143_78 : Xi T5 904 78 = Xi T3 904 78 := ((show Xi T5 904 78 = Xi T3 904 78 from w255.x _ _ rfl))
    have y143_81 : Xi T5 904 81 = Xi T3 904 81 := ((show Xi T5 904 81 = Xi T3 904 81 from w255.x _ _ rfl))
    have y143_94 : Xi T5 904 94 = Xi T3 904 94 := ((show Xi T5 904 94 = Xi T3 904 94 from w255.x _ _ rfl))
    have y143_98 : Xi T5 904 98 = Xi T3 904 98 := ((show Xi T5 904 98 = Xi T3 904 98 from w255.x _ _ rfl))
    have y143_60 : Xi T5 904 60 = Xi T3 904 60 := ((show Xi T5 904 60 = Xi T3 904 60 from w255.x _ _ rfl))
    have y143_117 : Xi T5 904 117 = Xi T3 904 117 := ((show Xi T5 904 117 = Xi T3 904 117 from w255.x _ _ rfl))
    have F143 : Xi T5 904 106 = 0 → DOK T5 := fun q => dok_0 (by omega) (by unfold D0; omega)
    refine l_goto rfl rfl ?_
    refine l_return rfl rfl ?_
    have w256 : 0 ≤ Xi T5 904 106 ∧ Xi T5 904 106 ≤ 9 := hHT5.c _ _
    exact ⟨hHT5, hFT5, rfl, (by assumption), (by first | exact fun q => by assumption | assumption | exact fun q => (RDT_FR hHT3 w255 rfl rfl rfl (by assumption : RDT T3)))⟩
set_option maxRecDepth 100000 in
set_option maxHeartbeats 8000000 in
theorem c149_mo_asked {S : sS} (hH : HI S) (n : Nat) (dd : Nat) (first : Int) (hfirst : 0 ≤ first ∧ first ≤ 5001) (hT : TK S n) (hv : RNV S n) (hM : LXM S) (hB : ABV S) (hC : DCM S) (hK : TXK S n) (hX : TXM S) (hq : SNQ S n) (hap : AP9 S n) (h94 : Xi S 904 94 ≤ 1668) (hRD : RDT S) (hPF : PF S) (hdt : Xi S 904 70 = 20 → first ≤ dd ∧ dd < n ∧ Xi S 907 dd = 46) (d : Nat) : ∀  (T6 : sS) (_ : HI T6) (_ : FR md_mo_asked S T6), (Xi T6 904 117 = Xi S 904 117) → (Xi T6 904 69 = Xi S 904 69) → (Xi T6 904 70 = Xi S 904 70) → (Xi T6 904 71 = Xi S 904 71) → (Xi T6 904 72 = Xi S 904 72) → (Xi T6 904 73 = Xi S 904 73) → (Xi T6 904 74 = Xi S 904 74) → (Xi T6 904 78 = Xi S 904 78) → (Xi T6 904 81 = Xi S 904 81) → (Xi T6 904 94 = Xi S 904 94) → (Xi T6 904 98 = Xi S 904 98) → (Xi T6 904 60 = Xi S 904 60) → (Xi T6 904 106 = 0) → (Xi T6 904 108 = 0) → (Xi T6 904 115 = -1) → (Xi T6 904 116 = -1) → (SNQ T6 n) → (RDT T6) → (KQL T6 S (Xi S 904 117)) → (Xi S 904 70 = 1) → Rl lay0 (d + 12) m_mo_asked 149 [(0, .ref 904)] [] T6 (Q_mo_asked S n dd first) := by
  have hF : FR md_mo_asked S S := FR.rf
  have w1 : 0 ≤ Xi S 904 106 ∧ Xi S 904 106 ≤ 9 := hH.c _ _
  have w2 : 0 ≤ Xi S 904 108 ∧ Xi S 904 108 ≤ 2600 := hH.c _ _
  have w3 : -1 ≤ Xi S 904 115 ∧ Xi S 904 115 ≤ 15 := hH.c _ _
  have w4 : -1 ≤ Xi S 904 116 ∧ Xi S 904 116 ≤ 15 := hH.c _ _
  have w5 : 0 ≤ Xi S 904 117 ∧ Xi S 904 117 ≤ 480 := hH.c _ _
  have w6 : 0 ≤ Xi S 904 23 ∧ Xi S 904 23 ≤ 24 := hH.c _ _
  have w7 : 0 ≤ Xi S 904 41 ∧ Xi S 904 41 ≤ 6 := hH.c _ _
  have w8 : -1 ≤ Xi S 904 60 ∧ Xi S 904 60 ≤ 23 := hH.c _ _
  have w9 : 0 ≤ Xi S 904 69 ∧ Xi S 904 69 ≤ 2600 := hH.c _ _
  have w10 : 0 ≤ Xi S 904 70 ∧ Xi S 904 70 ≤ 20 := hH.c _ _
  have w11 : 0 ≤ Xi S 904 71 ∧ Xi S 904 71 ≤ 2600 := hH.c _ _
  have w12 : 0 ≤ Xi S 904 72 ∧ Xi S 904 72 ≤ 2600 := hH.c _ _
  have w13 : 0 ≤ Xi S 904 73 ∧ Xi S 904 73 ≤ 5 := hH.c _ _
  have w14 : 0 ≤ Xi S 904 74 ∧ Xi S 904 74 ≤ 2600 := hH.c _ _
  have w15 : -2 ≤ Xi S 904 78 ∧ Xi S 904 78 ≤ 5010 := hH.c _ _
  have w16 : 0 ≤ Xi S 904 81 ∧ Xi S 904 81 ≤ 5010 := hH.c _ _
  have w17 : 0 ≤ Xi S 904 94 ∧ Xi S 904 94 ≤ 1700 := hH.c _ _
  have w18 : 0 ≤ Xi S 904 98 ∧ Xi S 904 98 ≤ 1700 := hH.c _ _
  have w19 : 0 ≤ Xi S 951 0 ∧ Xi S 951 0 ≤ 5010 := hH.c _ _
  have w20 : 0 ≤ Xi S 951 1 ∧ Xi S 951 1 ≤ 5010 := hH.c _ _
  have hn5 := hT.1
  have hc69 : 0 ≤ Xi S 904 69 ∧ Xi S 904 69 ≤ 2600 := hH.c _ _
  have hc70 : 0 ≤ Xi S 904 70 ∧ Xi S 904 70 ≤ 20 := hH.c _ _
  have hc23 : 0 ≤ Xi S 904 23 ∧ Xi S 904 23 ≤ 24 := hH.c _ _
  have hrf : ∀ r : Int, 0 ≤ r → r < Xi S 904 69 → Xi S 950 r.toNat + Xi S 951 r.toNat ≤ n ∧ 1 ≤ Xi S 951 r.toNat := fun r a b => hv r.toNat (by omega)
  have hq0 : KQL S S (Xi S 904 117) := KQL.rf
  intro T6 hHT6 hFT6 w290 w291 w292 w293 w294 w295 w296 w297 w298 w299 w300 w301 w302 w303 w304 w305 q20 r20 K20 w306
  have w307 : Xi T6 904 102 = Xi S 904 102 := hFT6.x _ _ rfl
  have w308 : Xi T6 904 103 = Xi S 904 103 := hFT6.x _ _ rfl
  have w309 : Xi T6 904 16 = Xi S 904 16 := hFT6.x _ _ rfl
  have w310 : Xi T6 904 18 = Xi S 904 18 := hFT6.x _ _ rfl
  have w311 : Xi T6 904 19 = Xi S 904 19 := hFT6.x _ _ rfl
  have w312 : Xi T6 904 23 = Xi S 904 23 := hFT6.x _ _ rfl
  have w313 : Xi T6 904 30 = Xi S 904 30 := hFT6.x _ _ rfl
  have w314 : Xi T6 904 41 = Xi S 904 41 := hFT6.x _ _ rfl
  have w315 : Xi T6 904 47 = Xi S 904 47 := hFT6.x _ _ rfl
  have w316 : Xi T6 904 49 = Xi S 904 49 := hFT6.x _ _ rfl
  have w317 : Xi T6 904 55 = Xi S 904 55 := hFT6.x _ _ rfl
  have w318 : Xi T6 904 60 = Xi S 904 60 := hFT6.x _ _ rfl
  have w319 : Xi T6 904 69 = Xi S 904 69 := hFT6.x _ _ rfl
  have w320 : Xi T6 904 70 = Xi S 904 70 := hFT6.x _ _ rfl
  have w321 : Xi T6 904 71 = Xi S 904 71 := hFT6.x _ _ rfl
  have w322 : Xi T6 904 72 = Xi S 904 72 := hFT6.x _ _ rfl
  have w323 : Xi T6 904 73 = Xi S 904 73 := hFT6.x _ _ rfl
  have w324 : Xi T6 904 74 = Xi S 904 74 := hFT6.x _ _ rfl
  have w325 : Xi T6 904 78 = Xi S 904 78 := hFT6.x _ _ rfl
  have w326 : Xi T6 904 81 = Xi S 904 81 := hFT6.x _ _ rfl
  have w327 : Xi T6 904 94 = Xi S 904 94 := hFT6.x _ _ rfl
  have w328 : Xi T6 904 98 = Xi S 904 98 := hFT6.x _ _ rfl
  have w329 : Xi T6 951 0 = Xi S 951 0 := hFT6.x _ _ rfl
  have w330 : Xi T6 951 1 = Xi S 951 1 := hFT6.x _ _ rfl
  have w331 : 0 ≤ Xi T6 904 106 ∧ Xi T6 904 106 ≤ 9 := hHT6.c _ _
  have w332 : 0 ≤ Xi T6 904 108 ∧ Xi T6 904 108 ≤ 2600 := hHT6.c _ _
  have w333 : -1 ≤ Xi T6 904 115 ∧ Xi T6 904 115 ≤ 15 := hHT6.c _ _
  have w334 : -1 ≤ Xi T6 904 116 ∧ Xi T6 904 116 ≤ 15 := hHT6.c _ _
  have w335 : 0 ≤ Xi T6 904 117 ∧ Xi T6 904 117 ≤ 480 := hHT6.c _ _
  have w336 : -1 ≤ Xi T6 904 60 ∧ Xi T6 904 60 ≤ 23 := hHT6.c _ _
  have w337 : 0 ≤ Xi T6 904 69 ∧ Xi T6 904 69 ≤ 2600 := hHT6.c _ _
  have w338 : 0 ≤ Xi T6 904 70 ∧ Xi T6 904 70 ≤ 20 := hHT6.c _ _
  have w339 : 0 ≤ Xi T6 904 71 ∧ Xi T6 904 71 ≤ 2600 := hHT6.c _ _
  have w340 : 0 ≤ Xi T6 904 72 ∧ Xi T6 904 72 ≤ 2600 := hHT6.c _ _
  have w341 : 0 ≤ Xi T6 904 73 ∧ Xi T6 904 73 ≤ 5 := hHT6.c _ _
  have w342 : 0 ≤ Xi T6 904 74 ∧ Xi T6 904 74 ≤ 2600 := hHT6.c _ _
  have w343 : -2 ≤ Xi T6 904 78 ∧ Xi T6 904 78 ≤ 5010 := hHT6.c _ _
  have w344 : 0 ≤ Xi T6 904 81 ∧ Xi T6 904 81 ≤ 5010 := hHT6.c _ _
  have w345 : 0 ≤ Xi T6 904 94 ∧ Xi T6 904 94 ≤ 1700 := hHT6.c _ _
  have w346 : 0 ≤ Xi T6 904 98 ∧ Xi T6 904 98 ≤ 1700 := hHT6.c _ _
  refine l_aload_n rfl rfl ?_
  have s149 := q20.1 (by omega)
  have t149 := q20.2.1 (by omega)
  have l149 : Xi T6 904 81 < n := tk_lt (TK_FR hFT6 rfl hT) (by omega) s149.1 (by have t := s149.2; omega)
  have w352 : 0 ≤ Xi T6 904 142 ∧ Xi T6 904 142 ≤ 4 := hHT6.c _ _
  have w353 : 0 ≤ Xi T6 904 55 ∧ Xi T6 904 55 ≤ 20 := hHT6.c _ _
  refine l_callV rfl rfl rfl (t_mo_askCommand hHT6 n (by first | assumption | exact (TK_FR hFT6 rfl (by assumption : TK S _))) (by first | assumption | exact (RNV_FR hFT6 rfl (by assumption : RNV S _))) (by first | assumption | exact (LXM_FR hFT6 rfl (by assumption : LXM S))) (by first | assumption | exact (ABV_FR hFT6 rfl (by assumption : ABV S))) (by first | assumption | exact (TXK_FR hFT6 rfl (by assumption : TXK S _))) (by first | assumption | omega) (⟨l149, s149.2⟩) _) ?_
  rintro _ T7 ⟨hHT7, w366, rfl, f150⟩
  have hFT7 : FR md_mo_asked S T7 := FR.tr hFT6 w366 rfl
  show Rl _ _ _ _ _ [] _ _
  have y150_69 : Xi T7 904 69 = Xi T6 904 69 := ((show Xi T7 904 69 = Xi T6 904 69 from w366.x _ _ rfl))
  have y150_70 : Xi T7 904 70 = Xi T6 904 70 := ((show Xi T7 904 70 = Xi T6 904 70 from w366.x _ _ rfl))
  have y150_71 : Xi T7 904 71 = Xi T6 904 71 := ((show Xi T7 904 71 = Xi T6 904 71 from w366.x _ _ rfl))
  have y150_72 : Xi T7 904 72 = Xi T6 904 72 := ((show Xi T7 904 72 = Xi T6 904 72 from w366.x _ _ rfl))
  have y150_73 : Xi T7 904 73 = Xi T6 904 73 := ((show Xi T7 904 73 = Xi T6 904 73 from w366.x _ _ rfl))
  have y150_74 : Xi T7 904 74 = Xi T6 904 74 := ((show Xi T7 904 74 = Xi T6 904 74 from w366.x _ _ rfl))
  have y150_78 : Xi T7 904 78 = Xi T6 904 78 := ((show Xi T7 904 78 = Xi T6 904 78 from w366.x _ _ rfl))
  have y150_81 : Xi T7 904 81 = Xi T6 904 81 := ((show Xi T7 904 81 = Xi T6 904 81 from w366.x _ _ rfl))
  have y150_94 : Xi T7 904 94 = Xi T6 904 94 := ((show Xi T7 904 94 = Xi T6 904 94 from w366.x _ _ rfl))
  have y150_98 : Xi T7 904 98 = Xi T6 904 98 := ((show Xi T7 904 98 = Xi T6 904 98 from w366.x _ _ rfl))
  have y150_60 : Xi T7 904 60 = Xi T6 904 60 := ((show Xi T7 904 60 = Xi T6 904 60 from w366.x _ _ rfl))
  have y150_117 : Xi T7 904 117 = Xi T6 904 117 := ((show Xi T7 904 117 = Xi T6 904 117 from w366.x _ _ rfl))
  have u150_55 : Xi T7 904 55 = Xi S 904 55 := hFT7.x 904 55 rfl
  have F150 : Xi T7 904 106 = 0 → DOK T7 := fun q => dok_1 (by omega) (⟨by have t := (f150 q).1; have u : Xi T6 904 55 = Xi S 904 55 := hFT6.x 904 55 rfl; omega, by rw [rnR_FR hFT7 rfl rfl]; have t := (f150 q).2; rw [rnR_FR hFT6 rfl rfl] at t; exact t⟩)
  refine l_goto rfl rfl ?_
  refine l_return rfl rfl ?_
  have w367 : 0 ≤ Xi T7 904 106 ∧ Xi T7 904 106 ≤ 9 := hHT7.c _ _
  exact ⟨hHT7, hFT7, rfl, (by assumption), (by first | exact fun q => by assumption | assumption | exact fun q => (RDT_FR hHT6 w366 rfl rfl rfl (by assumption : RDT T6)))⟩
set_option maxRecDepth 100000 in
set_option maxHeartbeats 8000000 in
theorem c156_mo_asked {S : sS} (hH : HI S) (n : Nat) (dd : Nat) (first : Int) (hfirst : 0 ≤ first ∧ first ≤ 5001) (hT : TK S n) (hv : RNV S n) (hM : LXM S) (hB : ABV S) (hC : DCM S) (hK : TXK S n) (hX : TXM S) (hq : SNQ S n) (hap : AP9 S n) (h94 : Xi S 904 94 ≤ 1668) (hRD : RDT S) (hPF : PF S) (hdt : Xi S 904 70 = 20 → first ≤ dd ∧ dd < n ∧ Xi S 907 dd = 46) (d : Nat) : ∀  (T8 : sS) (_ : HI T8) (_ : FR md_mo_asked S T8), (Xi T8 904 117 = Xi S 904 117) → (Xi T8 904 69 = Xi S 904 69) → (Xi T8 904 70 = Xi S 904 70) → (Xi T8 904 71 = Xi S 904 71) → (Xi T8 904 72 = Xi S 904 72) → (Xi T8 904 73 = Xi S 904 73) → (Xi T8 904 74 = Xi S 904 74) → (Xi T8 904 78 = Xi S 904 78) → (Xi T8 904 81 = Xi S 904 81) → (Xi T8 904 94 = Xi S 904 94) → (Xi T8 904 98 = Xi S 904 98) → (Xi T8 904 60 = Xi S 904 60) → (Xi T8 904 106 = 0) → (Xi T8 904 108 = 0) → (Xi T8 904 115 = -1) → (Xi T8 904 116 = -1) → (SNQ T8 n) → (RDT T8) → (KQL T8 S (Xi S 904 117)) → (Xi S 904 70 = 2) → Rl lay0 (d + 12) m_mo_asked 156 [(0, .ref 904)] [] T8 (Q_mo_asked S n dd first) := by
  have hF : FR md_mo_asked S S := FR.rf
  have w1 : 0 ≤ Xi S 904 106 ∧ Xi S 904 106 ≤ 9 := hH.c _ _
  have w2 : 0 ≤ Xi S 904 108 ∧ Xi S 904 108 ≤ 2600 := hH.c _ _
  have w3 : -1 ≤ Xi S 904 115 ∧ Xi S 904 115 ≤ 15 := hH.c _ _
  have w4 : -1 ≤ Xi S 904 116 ∧ Xi S 904 116 ≤ 15 := hH.c _ _
  have w5 : 0 ≤ Xi S 904 117 ∧ Xi S 904 117 ≤ 480 := hH.c _ _
  have w6 : 0 ≤ Xi S 904 23 ∧ Xi S 904 23 ≤ 24 := hH.c _ _
  have w7 : 0 ≤ Xi S 904 41 ∧ Xi S 904 41 ≤ 6 := hH.c _ _
  have w8 : -1 ≤ Xi S 904 60 ∧ Xi S 904 60 ≤ 23 := hH.c _ _
  have w9 : 0 ≤ Xi S 904 69 ∧ Xi S 904 69 ≤ 2600 := hH.c _ _
  have w10 : 0 ≤ Xi S 904 70 ∧ Xi S 904 70 ≤ 20 := hH.c _ _
  have w11 : 0 ≤ Xi S 904 71 ∧ Xi S 904 71 ≤ 2600 := hH.c _ _
  have w12 : 0 ≤ Xi S 904 72 ∧ Xi S 904 72 ≤ 2600 := hH.c _ _
  have w13 : 0 ≤ Xi S 904 73 ∧ Xi S 904 73 ≤ 5 := hH.c _ _
  have w14 : 0 ≤ Xi S 904 74 ∧ Xi S 904 74 ≤ 2600 := hH.c _ _
  have w15 : -2 ≤ Xi S 904 78 ∧ Xi S 904 78 ≤ 5010 := hH.c _ _
  have w16 : 0 ≤ Xi S 904 81 ∧ Xi S 904 81 ≤ 5010 := hH.c _ _
  have w17 : 0 ≤ Xi S 904 94 ∧ Xi S 904 94 ≤ 1700 := hH.c _ _
  have w18 : 0 ≤ Xi S 904 98 ∧ Xi S 904 98 ≤ 1700 := hH.c _ _
  have w19 : 0 ≤ Xi S 951 0 ∧ Xi S 951 0 ≤ 5010 := hH.c _ _
  have w20 : 0 ≤ Xi S 951 1 ∧ Xi S 951 1 ≤ 5010 := hH.c _ _
  have hn5 := hT.1
  have hc69 : 0 ≤ Xi S 904 69 ∧ Xi S 904 69 ≤ 2600 := hH.c _ _
  have hc70 : 0 ≤ Xi S 904 70 ∧ Xi S 904 70 ≤ 20 := hH.c _ _
  have hc23 : 0 ≤ Xi S 904 23 ∧ Xi S 904 23 ≤ 24 := hH.c _ _
  have hrf : ∀ r : Int, 0 ≤ r → r < Xi S 904 69 → Xi S 950 r.toNat + Xi S 951 r.toNat ≤ n ∧ 1 ≤ Xi S 951 r.toNat := fun r a b => hv r.toNat (by omega)
  have hq0 : KQL S S (Xi S 904 117) := KQL.rf
  intro T8 hHT8 hFT8 w401 w402 w403 w404 w405 w406 w407 w408 w409 w410 w411 w412 w413 w414 w415 w416 q20 r20 K20 w417
  have w418 : Xi T8 904 102 = Xi S 904 102 := hFT8.x _ _ rfl
  have w419 : Xi T8 904 103 = Xi S 904 103 := hFT8.x _ _ rfl
  have w420 : Xi T8 904 16 = Xi S 904 16 := hFT8.x _ _ rfl
  have w421 : Xi T8 904 18 = Xi S 904 18 := hFT8.x _ _ rfl
  have w422 : Xi T8 904 19 = Xi S 904 19 := hFT8.x _ _ rfl
  have w423 : Xi T8 904 23 = Xi S 904 23 := hFT8.x _ _ rfl
  have w424 : Xi T8 904 30 = Xi S 904 30 := hFT8.x _ _ rfl
  have w425 : Xi T8 904 41 = Xi S 904 41 := hFT8.x _ _ rfl
  have w426 : Xi T8 904 47 = Xi S 904 47 := hFT8.x _ _ rfl
  have w427 : Xi T8 904 49 = Xi S 904 49 := hFT8.x _ _ rfl
  have w428 : Xi T8 904 55 = Xi S 904 55 := hFT8.x _ _ rfl
  have w429 : Xi T8 904 60 = Xi S 904 60 := hFT8.x _ _ rfl
  have w430 : Xi T8 904 69 = Xi S 904 69 := hFT8.x _ _ rfl
  have w431 : Xi T8 904 70 = Xi S 904 70 := hFT8.x _ _ rfl
  have w432 : Xi T8 904 71 = Xi S 904 71 := hFT8.x _ _ rfl
  have w433 : Xi T8 904 72 = Xi S 904 72 := hFT8.x _ _ rfl
  have w434 : Xi T8 904 73 = Xi S 904 73 := hFT8.x _ _ rfl
  have w435 : Xi T8 904 74 = Xi S 904 74 := hFT8.x _ _ rfl
  have w436 : Xi T8 904 78 = Xi S 904 78 := hFT8.x _ _ rfl
  have w437 : Xi T8 904 81 = Xi S 904 81 := hFT8.x _ _ rfl
  have w438 : Xi T8 904 94 = Xi S 904 94 := hFT8.x _ _ rfl
  have w439 : Xi T8 904 98 = Xi S 904 98 := hFT8.x _ _ rfl
  have w440 : Xi T8 951 0 = Xi S 951 0 := hFT8.x _ _ rfl
  have w441 : Xi T8 951 1 = Xi S 951 1 := hFT8.x _ _ rfl
  have w442 : 0 ≤ Xi T8 904 106 ∧ Xi T8 904 106 ≤ 9 := hHT8.c _ _
  have w443 : 0 ≤ Xi T8 904 108 ∧ Xi T8 904 108 ≤ 2600 := hHT8.c _ _
  have w444 : -1 ≤ Xi T8 904 115 ∧ Xi T8 904 115 ≤ 15 := hHT8.c _ _
  have w445 : -1 ≤ Xi T8 904 116 ∧ Xi T8 904 116 ≤ 15 := hHT8.c _ _
  have w446 : 0 ≤ Xi T8 904 117 ∧ Xi T8 904 117 ≤ 480 := hHT8.c _ _
  have w447 : -1 ≤ Xi T8 904 60 ∧ Xi T8 904 60 ≤ 23 := hHT8.c _ _
  have w448 : 0 ≤ Xi T8 904 69 ∧ Xi T8 904 69 ≤ 2600 := hHT8.c _ _
  have w449 : 0 ≤ Xi T8 904 70 ∧ Xi T8 904 70 ≤ 20 := hHT8.c _ _
  have w450 : 0 ≤ Xi T8 904 71 ∧ Xi T8 904 71 ≤ 2600 := hHT8.c _ _
  have w451 : 0 ≤ Xi T8 904 72 ∧ Xi T8 904 72 ≤ 2600 := hHT8.c _ _
  have w452 : 0 ≤ Xi T8 904 73 ∧ Xi T8 904 73 ≤ 5 := hHT8.c _ _
  have w453 : 0 ≤ Xi T8 904 74 ∧ Xi T8 904 74 ≤ 2600 := hHT8.c _ _
  have w454 : -2 ≤ Xi T8 904 78 ∧ Xi T8 904 78 ≤ 5010 := hHT8.c _ _
  have w455 : 0 ≤ Xi T8 904 81 ∧ Xi T8 904 81 ≤ 5010 := hHT8.c _ _
  have w456 : 0 ≤ Xi T8 904 94 ∧ Xi T8 904 94 ≤ 1700 := hHT8.c _ _
  have w457 : 0 ≤ Xi T8 904 98 ∧ Xi T8 904 98 ≤ 1700 := hHT8.c _ _
  refine l_aload_n rfl rfl ?_
  have s156 := q20.2.2.1 (by omega)
  have v156 := hap.1 (by omega) (by omega)
  have w156 := hap.2.2.2.2 (by omega)
  have z156_0 : Xi S 950 0 + Xi S 951 0 ≤ n := (hv 0 (by omega)).1
  have z156_1 : Xi S 950 1 + Xi S 951 1 ≤ n := (hv 1 (by omega)).1
  refine l_aload_n rfl rfl ?_
  refine l_iconst rfl ?_
  have w463 : 0 ≤ Xi T8 904 142 ∧ Xi T8 904 142 ≤ 4 := hHT8.c _ _
  have w464 : 0 ≤ Xi T8 904 16 ∧ Xi T8 904 16 ≤ 16 := hHT8.c _ _
  refine l_callV rfl rfl rfl (t_mo_kindOfRun__2 hHT8 n 0 ⟨by omega, by omega⟩ (by first | assumption | exact (TK_FR hFT8 rfl (by assumption : TK S _))) (by first | assumption | exact (RNV_FR hFT8 rfl (by assumption : RNV S _))) (by first | assumption | omega) (by first | assumption | exact (LXM_FR hFT8 rfl (by assumption : LXM S))) _) ?_
  rintro _ T9 ⟨hHT9, w481, z480, rfl, w480, w476, w477, w478, w479⟩
  have hFT9 : FR md_mo_asked S T9 := FR.tr hFT8 w481 rfl
  show Rl _ _ _ _ _ [iv z480, .ref 904] _ _
  have r159 : z480 = rnR S 0 0 := (by assumption : z480 = rnR T8 _ _).trans (rnR_FR hFT8 rfl rfl)
  refine l_pfi rfl rfl rfl rfl ?_
  obtain ⟨U10, eU10⟩ : ∃ T : sS, T = uI T9 904 115 (Int32.ofInt z480) := ⟨_, rfl⟩
  rw [← eU10]
  have hHU10 : HI U10 := by rw [eU10]; exact HI_w hHT9 (show -1 ≤ z480 by omega) (show z480 ≤ 15 by omega)
  have hFU10 : FR md_mo_asked S U10 := by rw [eU10]; exact FR.wI hFT9 (mdf_i (r := (904, 905, 115, 116)) (List.mem_of_getElem? (i := 9) rfl) (inR_i (by omega) (by omega) (by omega) (by omega)))
  have w482 : Xi U10 904 115 = z480 := by rw [eU10]; exact Xi_same (by unfold rg; omega)
  refine l_aload_n rfl rfl ?_
  refine l_iconst rfl ?_
  refine l_aload_n rfl rfl ?_
  refine l_gfi rfl rfl rfl rfl rfl ?_
  have w483 : (Xi U10 904 23) = (Xi T8 904 23) := (show Xi U10 904 23 = Xi T9 904 23 from by rw [eU10]; exact Xi_ne (by omega)).trans ((show Xi T9 904 23 = Xi T8 904 23 from w481.x _ _ rfl))
  rw [w483]
  refine l_bipush rfl rfl ?_
  have w484 : Xi U10 904 106 = Xi T9 904 106 := (show Xi U10 904 106 = Xi T9 904 106 from by rw [eU10]; exact Xi_ne (by omega))
  have w485 : 0 ≤ Xi T9 904 106 ∧ Xi T9 904 106 ≤ 9 := hHT9.c _ _
  have w486 : Xi U10 904 108 = Xi T8 904 108 := (show Xi U10 904 108 = Xi T9 904 108 from by rw [eU10]; exact Xi_ne (by omega)).trans ((show Xi T9 904 108 = Xi T8 904 108 from w481.x _ _ rfl))
  have w488 : Xi U10 904 109 = Xi T8 904 109 := (show Xi U10 904 109 = Xi T9 904 109 from by rw [eU10]; exact Xi_ne (by omega)).trans ((show Xi T9 904 109 = Xi T8 904 109 from w481.x _ _ rfl))
  have w489 : -1 ≤ Xi U10 904 115 ∧ Xi U10 904 115 ≤ 15 := hHU10.c _ _
  have w490 : Xi U10 904 116 = Xi T8 904 116 := (show Xi U10 904 116 = Xi T9 904 116 from by rw [eU10]; exact Xi_ne (by omega)).trans ((show Xi T9 904 116 = Xi T8 904 116 from w481.x _ _ rfl))
  have w492 : Xi U10 904 117 = Xi T8 904 117 := (show Xi U10 904 117 = Xi T9 904 117 from by rw [eU10]; exact Xi_ne (by omega)).trans ((show Xi T9 904 117 = Xi T8 904 117 from w481.x _ _ rfl))
  have w494 : Xi U10 904 142 = Xi T8 904 142 := (show Xi U10 904 142 = Xi T9 904 142 from by rw [eU10]; exact Xi_ne (by omega)).trans ((show Xi T9 904 142 = Xi T8 904 142 from w481.x _ _ rfl))
  have w496 : Xi U10 904 60 = Xi T8 904 60 := (show Xi U10 904 60 = Xi T9 904 60 from by rw [eU10]; exact Xi_ne (by omega)).trans ((show Xi T9 904 60 = Xi T8 904 60 from w481.x _ _ rfl))
  have w498 : Xi U10 904 69 = Xi T8 904 69 := (show Xi U10 904 69 = Xi T9 904 69 from by rw [eU10]; exact Xi_ne (by omega)).trans ((show Xi T9 904 69 = Xi T8 904 69 from w481.x _ _ rfl))
  have w500 : Xi U10 904 70 = Xi T8 904 70 := (show Xi U10 904 70 = Xi T9 904 70 from by rw [eU10]; exact Xi_ne (by omega)).trans ((show Xi T9 904 70 = Xi T8 904 70 from w481.x _ _ rfl))
  have w502 : Xi U10 904 71 = Xi T8 904 71 := (show Xi U10 904 71 = Xi T9 904 71 from by rw [eU10]; exact Xi_ne (by omega)).trans ((show Xi T9 904 71 = Xi T8 904 71 from w481.x _ _ rfl))
  have w504 : Xi U10 904 72 = Xi T8 904 72 := (show Xi U10 904 72 = Xi T9 904 72 from by rw [eU10]; exact Xi_ne (by omega)).trans ((show Xi T9 904 72 = Xi T8 904 72 from w481.x _ _ rfl))
  have w506 : Xi U10 904 73 = Xi T8 904 73 := (show Xi U10 904 73 = Xi T9 904 73 from by rw [eU10]; exact Xi_ne (by omega)).trans ((show Xi T9 904 73 = Xi T8 904 73 from w481.x _ _ rfl))
  have w508 : Xi U10 904 74 = Xi T8 904 74 := (show Xi U10 904 74 = Xi T9 904 74 from by rw [eU10]; exact Xi_ne (by omega)).trans ((show Xi T9 904 74 = Xi T8 904 74 from w481.x _ _ rfl))
  have w510 : Xi U10 904 78 = Xi T8 904 78 := (show Xi U10 904 78 = Xi T9 904 78 from by rw [eU10]; exact Xi_ne (by omega)).trans ((show Xi T9 904 78 = Xi T8 904 78 from w481.x _ _ rfl))
  have w512 : Xi U10 904 81 = Xi T8 904 81 := (show Xi U10 904 81 = Xi T9 904 81 from by rw [eU10]; exact Xi_ne (by omega)).trans ((show Xi T9 904 81 = Xi T8 904 81 from w481.x _ _ rfl))
  have w514 : Xi U10 904 94 = Xi T8 904 94 := (show Xi U10 904 94 = Xi T9 904 94 from by rw [eU10]; exact Xi_ne (by omega)).trans ((show Xi T9 904 94 = Xi T8 904 94 from w481.x _ _ rfl))
  have w516 : Xi U10 904 98 = Xi T8 904 98 := (show Xi U10 904 98 = Xi T9 904 98 from by rw [eU10]; exact Xi_ne (by omega)).trans ((show Xi T9 904 98 = Xi T8 904 98 from w481.x _ _ rfl))
  refine l_callV rfl rfl rfl (t_mo_mustBeNew__2 hHU10 n 1 (Xi T8 904 23) 24 ⟨by omega, by omega⟩ ⟨by omega, by omega⟩ ⟨by omega, by omega⟩ (by first | assumption | exact (TK_FR hFU10 rfl (by assumption : TK S _))) (by first | assumption | exact (RNV_FR hFU10 rfl (by assumption : RNV S _))) (by first | assumption | omega) (by first | assumption | exact fun k hk => absurd hk (by omega) | exact (NWV_FR (FR_e eU10) rfl (NWV_FR w481 rfl (by assumption : NWV T8)))) (by first | assumption | omega) _) ?_
  rintro _ T11 ⟨hHT11, w523, rfl, w518, g173, w519, w520, w521⟩
  have hFT11 : FR md_mo_asked S T11 := FR.tr hFU10 w523 rfl
  show Rl _ _ _ _ _ [] _ _
  have G173 : Xi T11 904 106 = 0 → Xi S 904 23 < 24 ∧ Xi S 951 1 ≤ 3 := fun q => (by have t := g173 q; have u := t.2.1; rw [(hFU10.cx 951 rfl _).1] at u; have v : Xi U10 904 23 = Xi S 904 23 := hFU10.x 904 23 rfl; exact ⟨by omega, u⟩)
  refine l_aload_n rfl rfl ?_
  have w524 : 0 ≤ Xi T11 904 106 ∧ Xi T11 904 106 ≤ 9 := hHT11.c _ _
  have w525 : 0 ≤ Xi T11 904 108 ∧ Xi T11 904 108 ≤ 2600 := hHT11.c _ _
  have w526 : Xi T11 904 109 = Xi T8 904 109 := (show Xi T11 904 109 = Xi U10 904 109 from w523.x _ _ rfl).trans ( (show Xi U10 904 109 = Xi T9 904 109 from by rw [eU10]; exact Xi_ne (by omega)).trans ((show Xi T9 904 109 = Xi T8 904 109 from w481.x _ _ rfl)))
  have w527 : Xi T11 904 115 = Xi U10 904 115 := (show Xi T11 904 115 = Xi U10 904 115 from w523.x _ _ rfl)
  have w529 : Xi T11 904 116 = Xi T8 904 116 := (show Xi T11 904 116 = Xi U10 904 116 from w523.x _ _ rfl).trans ( (show Xi U10 904 116 = Xi T9 904 116 from by rw [eU10]; exact Xi_ne (by omega)).trans ((show Xi T9 904 116 = Xi T8 904 116 from w481.x _ _ rfl)))
  have w531 : Xi T11 904 117 = Xi T8 904 117 := (show Xi T11 904 117 = Xi U10 904 117 from w523.x _ _ rfl).trans ( (show Xi U10 904 117 = Xi T9 904 117 from by rw [eU10]; exact Xi_ne (by omega)).trans ((show Xi T9 904 117 = Xi T8 904 117 from w481.x _ _ rfl)))
  have w533 : Xi T11 904 142 = Xi T8 904 142 := (show Xi T11 904 142 = Xi U10 904 142 from w523.x _ _ rfl).trans ( (show Xi U10 904 142 = Xi T9 904 142 from by rw [eU10]; exact Xi_ne (by omega)).trans ((show Xi T9 904 142 = Xi T8 904 142 from w481.x _ _ rfl)))
  have w535 : Xi T11 904 60 = Xi T8 904 60 := (show Xi T11 904 60 = Xi U10 904 60 from w523.x _ _ rfl).trans ( (show Xi U10 904 60 = Xi T9 904 60 from by rw [eU10]; exact Xi_ne (by omega)).trans ((show Xi T9 904 60 = Xi T8 904 60 from w481.x _ _ rfl)))
  have w537 : Xi T11 904 69 = Xi T8 904 69 := (show Xi T11 904 69 = Xi U10 904 69 from w523.x _ _ rfl).trans ( (show Xi U10 904 69 = Xi T9 904 69 from by rw [eU10]; exact Xi_ne (by omega)).trans ((show Xi T9 904 69 = Xi T8 904 69 from w481.x _ _ rfl)))
  have w539 : Xi T11 904 70 = Xi T8 904 70 := (show Xi T11 904 70 = Xi U10 904 70 from w523.x _ _ rfl).trans ( (show Xi U10 904 70 = Xi T9 904 70 from by rw [eU10]; exact Xi_ne (by omega)).trans ((show Xi T9 904 70 = Xi T8 904 70 from w481.x _ _ rfl)))
  have w541 : Xi T11 904 71 = Xi T8 904 71 := (show Xi T11 904 71 = Xi U10 904 71 from w523.x _ _ rfl).trans ( (show Xi U10 904 71 = Xi T9 904 71 from by rw [eU10]; exact Xi_ne (by omega)).trans ((show Xi T9 904 71 = Xi T8 904 71 from w481.x _ _ rfl)))
  have w543 : Xi T11 904 72 = Xi T8 904 72 := (show Xi T11 904 72 = Xi U10 904 72 from w523.x _ _ rfl).trans ( (show Xi U10 904 72 = Xi T9 904 72 from by rw [eU10]; exact Xi_ne (by omega)).trans ((show Xi T9 904 72 = Xi T8 904 72 from w481.x _ _ rfl)))
  have w545 : Xi T11 904 73 = Xi T8 904 73 := (show Xi T11 904 73 = Xi U10 904 73 from w523.x _ _ rfl).trans ( (show Xi U10 904 73 = Xi T9 904 73 from by rw [eU10]; exact Xi_ne (by omega)).trans ((show Xi T9 904 73 = Xi T8 904 73 from w481.x _ _ rfl)))
  have w547 : Xi T11 904 74 = Xi T8 904 74 := (show Xi T11 904 74 = Xi U10 904 74 from w523.x _ _ rfl).trans ( (show Xi U10 904 74 = Xi T9 904 74 from by rw [eU10]; exact Xi_ne (by omega)).trans ((show Xi T9 904 74 = Xi T8 904 74 from w481.x _ _ rfl)))
  have w549 : Xi T11 904 78 = Xi T8 904 78 := (show Xi T11 904 78 = Xi U10 904 78 from w523.x _ _ rfl).trans ( (show Xi U10 904 78 = Xi T9 904 78 from by rw [eU10]; exact Xi_ne (by omega)).trans ((show Xi T9 904 78 = Xi T8 904 78 from w481.x _ _ rfl)))
  have w551 : Xi T11 904 81 = Xi T8 904 81 := (show Xi T11 904 81 = Xi U10 904 81 from w523.x _ _ rfl).trans ( (show Xi U10 904 81 = Xi T9 904 81 from by rw [eU10]; exact Xi_ne (by omega)).trans ((show Xi T9 904 81 = Xi T8 904 81 from w481.x _ _ rfl)))
  have w553 : Xi T11 904 94 = Xi T8 904 94 := (show Xi T11 904 94 = Xi U10 904 94 from w523.x _ _ rfl).trans ( (show Xi U10 904 94 = Xi T9 904 94 from by rw [eU10]; exact Xi_ne (by omega)).trans ((show Xi T9 904 94 = Xi T8 904 94 from w481.x _ _ rfl)))
  have w555 : Xi T11 904 98 = Xi T8 904 98 := (show Xi T11 904 98 = Xi U10 904 98 from w523.x _ _ rfl).trans ( (show Xi U10 904 98 = Xi T9 904 98 from by rw [eU10]; exact Xi_ne (by omega)).trans ((show Xi T9 904 98 = Xi T8 904 98 from w481.x _ _ rfl)))
  refine l_callV rfl rfl rfl (t_mo_testsMeant hHT11 n (by first | assumption | exact (TK_FR hFT11 rfl (by assumption : TK S _))) (by first | assumption | exact (RNV_FR hFT11 rfl (by assumption : RNV S _))) (by first | assumption | exact (LXM_FR hFT11 rfl (by assumption : LXM S))) (by first | assumption | exact (ABV_FR hFT11 rfl (by assumption : ABV S))) (by first | assumption | exact (DCM_FR hFT11 rfl (by assumption : DCM S))) (by first | assumption | exact (TXK_FR hFT11 rfl (by assumption : TXK S _))) (TVA_FR hFT11 rfl (by rw [show Xi T11 904 94 = Xi S 904 94 by omega]; exact v156)) (by first | assumption | omega) _) ?_
  rintro _ T12 ⟨hHT12, w559, rfl, w557, tq177, kq177⟩
  have hFT12 : FR md_mo_asked S T12 := FR.tr hFT11 w559 rfl
  show Rl _ _ _ _ _ [] _ _
  have R177 : RDT T12 := rdt_keep (RDT_FR hHU10 w523 rfl rfl rfl (RDT_FR hHT9 (FR_e eU10) rfl rfl rfl (RDT_FR hHT8 w481 rfl rfl rfl (by assumption : RDT T8)))) hHT11 (GR_FR (by assumption : FR md_mo_testsMeant T11 T12) rfl GR.rf) ((by assumption : FR md_mo_testsMeant T11 T12).x 904 117 rfl) ((by assumption : FR md_mo_testsMeant T11 T12).x 904 125 rfl) ((by assumption : FR md_mo_testsMeant T11 T12).x 904 130 rfl) ((by assumption : FR md_mo_testsMeant T11 T12).x 904 23 rfl) (smk_r8 (by assumption : FR md_mo_testsMeant T11 T12) rfl) kq177 (KHL_FR (by assumption : FR md_mo_testsMeant T11 T12) rfl KHL.rf)
  have y177_69 : Xi T12 904 69 = Xi T8 904 69 := ((show Xi T12 904 69 = Xi T11 904 69 from w559.x _ _ rfl).trans ((show Xi T11 904 69 = Xi U10 904 69 from w523.x _ _ rfl).trans ((show Xi U10 904 69 = Xi T9 904 69 from by rw [eU10]; exact Xi_ne (by omega)).trans ((show Xi T9 904 69 = Xi T8 904 69 from w481.x _ _ rfl)))))
  have y177_70 : Xi T12 904 70 = Xi T8 904 70 := ((show Xi T12 904 70 = Xi T11 904 70 from w559.x _ _ rfl).trans ((show Xi T11 904 70 = Xi U10 904 70 from w523.x _ _ rfl).trans ((show Xi U10 904 70 = Xi T9 904 70 from by rw [eU10]; exact Xi_ne (by omega)).trans ((show Xi T9 904 70 = Xi T8 904 70 from w481.x _ _ rfl)))))
  have y177_71 : Xi T12 904 71 = Xi T8 904 71 := ((show Xi T12 904 71 = Xi T11 904 71 from w559.x _ _ rfl).trans ((show Xi T11 904 71 = Xi U10 904 71 from w523.x _ _ rfl).trans ((show Xi U10 904 71 = Xi T9 904 71 from by rw [eU10]; exact Xi_ne (by omega)).trans ((show Xi T9 904 71 = Xi T8 904 71 from w481.x _ _ rfl)))))
  have y177_72 : Xi T12 904 72 = Xi T8 904 72 := ((show Xi T12 904 72 = Xi T11 904 72 from w559.x _ _ rfl).trans ((show Xi T11 904 72 = Xi U10 904 72 from w523.x _ _ rfl).trans ((show Xi U10 904 72 = Xi T9 904 72 from by rw [eU10]; exact Xi_ne (by omega)).trans ((show Xi T9 904 72 = Xi T8 904 72 from w481.x _ _ rfl)))))
  have y177_73 : Xi T12 904 73 = Xi T8 904 73 := ((show Xi T12 904 73 = Xi T11 904 73 from w559.x _ _ rfl).trans ((show Xi T11 904 73 = Xi U10 904 73 from w523.x _ _ rfl).trans ((show Xi U10 904 73 = Xi T9 904 73 from by rw [eU10]; exact Xi_ne (by omega)).trans ((show Xi T9 904 73 = Xi T8 904 73 from w481.x _ _ rfl)))))
  have y177_74 : Xi T12 904 74 = Xi T8 904 74 := ((show Xi T12 904 74 = Xi T11 904 74 from w559.x _ _ rfl).trans ((show Xi T11 904 74 = Xi U10 904 74 from w523.x _ _ rfl).trans ((show Xi U10 904 74 = Xi T9 904 74 from by rw [eU10]; exact Xi_ne (by omega)).trans ((show Xi T9 904 74 = Xi T8 904 74 from w481.x _ _ rfl)))))
  have y177_78 : Xi T12 904 78 = Xi T8 904 78 := ((show Xi T12 904 78 = Xi T11 904 78 from w559.x _ _ rfl).trans ((show Xi T11 904 78 = Xi U10 904 78 from w523.x _ _ rfl).trans ((show Xi U10 904 78 = Xi T9 904 78 from by rw [eU10]; exact Xi_ne (by omega)).trans ((show Xi T9 904 78 = Xi T8 904 78 from w481.x _ _ rfl)))))
  have y177_81 : Xi T12 904 81 = Xi T8 904 81 := ((show Xi T12 904 81 = Xi T11 904 81 from w559.x _ _ rfl).trans ((show Xi T11 904 81 = Xi U10 904 81 from w523.x _ _ rfl).trans ((show Xi U10 904 81 = Xi T9 904 81 from by rw [eU10]; exact Xi_ne (by omega)).trans ((show Xi T9 904 81 = Xi T8 904 81 from w481.x _ _ rfl)))))
  have y177_94 : Xi T12 904 94 = Xi T8 904 94 := ((show Xi T12 904 94 = Xi T11 904 94 from w559.x _ _ rfl).trans ((show Xi T11 904 94 = Xi U10 904 94 from w523.x _ _ rfl).trans ((show Xi U10 904 94 = Xi T9 904 94 from by rw [eU10]; exact Xi_ne (by omega)).trans ((show Xi T9 904 94 = Xi T8 904 94 from w481.x _ _ rfl)))))
  have y177_98 : Xi T12 904 98 = Xi T8 904 98 := ((show Xi T12 904 98 = Xi T11 904 98 from w559.x _ _ rfl).trans ((show Xi T11 904 98 = Xi U10 904 98 from w523.x _ _ rfl).trans ((show Xi U10 904 98 = Xi T9 904 98 from by rw [eU10]; exact Xi_ne (by omega)).trans ((show Xi T9 904 98 = Xi T8 904 98 from w481.x _ _ rfl)))))
  have y177_60 : Xi T12 904 60 = Xi T8 904 60 := ((show Xi T12 904 60 = Xi T11 904 60 from w559.x _ _ rfl).trans ((show Xi T11 904 60 = Xi U10 904 60 from w523.x _ _ rfl).trans ((show Xi U10 904 60 = Xi T9 904 60 from by rw [eU10]; exact Xi_ne (by omega)).trans ((show Xi T9 904 60 = Xi T8 904 60 from w481.x _ _ rfl)))))
  have y177_117 : Xi T12 904 117 = Xi T8 904 117 := ((show Xi T12 904 117 = Xi T11 904 117 from w559.x _ _ rfl).trans ((show Xi T11 904 117 = Xi U10 904 117 from w523.x _ _ rfl).trans ((show Xi U10 904 117 = Xi T9 904 117 from by rw [eU10]; exact Xi_ne (by omega)).trans ((show Xi T9 904 117 = Xi T8 904 117 from w481.x _ _ rfl)))))
  have t7_177 : Xi T12 904 106 = 0 → Xi S 904 94 ≤ 6 ∧ TQA T12 True False (Xi S 904 117) (Xi S 904 94) := fun x => by have t := tq177 x; rw [show Xi T11 904 94 = Xi S 904 94 by omega, (show Xi T11 904 117 = Xi S 904 117 by omega)] at t; exact ⟨t.1, t.2.b (fun _ => trivial) (fun y => absurd y (by omega))⟩
  have u177_23 : Xi T12 904 23 = Xi S 904 23 := hFT12.x 904 23 rfl
  have u177_117 : Xi T12 904 117 = Xi S 904 117 := by omega
  have F177 : Xi T12 904 106 = 0 → DOK T12 := fun q => dok_2 (by omega) (⟨by have t := G173 (by omega); omega, by rw [(hFT12.cx 951 rfl _).1]; exact (G173 (by omega)).2, by rw [rnR_FR hFT12 rfl rfl]; omega, ⟨by omega, by have t := (t7_177 q).1; omega⟩, by rw [u177_117, show Xi T12 904 94 = Xi S 904 94 by omega]; exact (t7_177 q).2⟩)
  refine l_goto rfl rfl ?_
  refine l_return rfl rfl ?_
  have w560 : 0 ≤ Xi T12 904 106 ∧ Xi T12 904 106 ≤ 9 := hHT12.c _ _
  exact ⟨hHT12, hFT12, rfl, (by assumption), (by first | exact fun q => by assumption | assumption | exact fun q => (by assumption : RDT T12))⟩
set_option maxRecDepth 100000 in
set_option maxHeartbeats 8000000 in
theorem c183_mo_asked {S : sS} (hH : HI S) (n : Nat) (dd : Nat) (first : Int) (hfirst : 0 ≤ first ∧ first ≤ 5001) (hT : TK S n) (hv : RNV S n) (hM : LXM S) (hB : ABV S) (hC : DCM S) (hK : TXK S n) (hX : TXM S) (hq : SNQ S n) (hap : AP9 S n) (h94 : Xi S 904 94 ≤ 1668) (hRD : RDT S) (hPF : PF S) (hdt : Xi S 904 70 = 20 → first ≤ dd ∧ dd < n ∧ Xi S 907 dd = 46) (d : Nat) : ∀  (T13 : sS) (_ : HI T13) (_ : FR md_mo_asked S T13), (Xi T13 904 117 = Xi S 904 117) → (Xi T13 904 69 = Xi S 904 69) → (Xi T13 904 70 = Xi S 904 70) → (Xi T13 904 71 = Xi S 904 71) → (Xi T13 904 72 = Xi S 904 72) → (Xi T13 904 73 = Xi S 904 73) → (Xi T13 904 74 = Xi S 904 74) → (Xi T13 904 78 = Xi S 904 78) → (Xi T13 904 81 = Xi S 904 81) → (Xi T13 904 94 = Xi S 904 94) → (Xi T13 904 98 = Xi S 904 98) → (Xi T13 904 60 = Xi S 904 60) → (Xi T13 904 106 = 0) → (Xi T13 904 108 = 0) → (Xi T13 904 115 = -1) → (Xi T13 904 116 = -1) → (SNQ T13 n) → (RDT T13) → (KQL T13 S (Xi S 904 117)) → (Xi S 904 70 = 7) → Rl lay0 (d + 12) m_mo_asked 183 [(0, .ref 904)] [] T13 (Q_mo_asked S n dd first) := by
  have hF : FR md_mo_asked S S := FR.rf
  have w1 : 0 ≤ Xi S 904 106 ∧ Xi S 904 106 ≤ 9 := hH.c _ _
  have w2 : 0 ≤ Xi S 904 108 ∧ Xi S 904 108 ≤ 2600 := hH.c _ _
  have w3 : -1 ≤ Xi S 904 115 ∧ Xi S 904 115 ≤ 15 := hH.c _ _
  have w4 : -1 ≤ Xi S 904 116 ∧ Xi S 904 116 ≤ 15 := hH.c _ _
  have w5 : 0 ≤ Xi S 904 117 ∧ Xi S 904 117 ≤ 480 := hH.c _ _
  have w6 : 0 ≤ Xi S 904 23 ∧ Xi S 904 23 ≤ 24 := hH.c _ _
  have w7 : 0 ≤ Xi S 904 41 ∧ Xi S 904 41 ≤ 6 := hH.c _ _
  have w8 : -1 ≤ Xi S 904 60 ∧ Xi S 904 60 ≤ 23 := hH.c _ _
  have w9 : 0 ≤ Xi S 904 69 ∧ Xi S 904 69 ≤ 2600 := hH.c _ _
  have w10 : 0 ≤ Xi S 904 70 ∧ Xi S 904 70 ≤ 20 := hH.c _ _
  have w11 : 0 ≤ Xi S 904 71 ∧ Xi S 904 71 ≤ 2600 := hH.c _ _
  have w12 : 0 ≤ Xi S 904 72 ∧ Xi S 904 72 ≤ 2600 := hH.c _ _
  have w13 : 0 ≤ Xi S 904 73 ∧ Xi S 904 73 ≤ 5 := hH.c _ _
  have w14 : 0 ≤ Xi S 904 74 ∧ Xi S 904 74 ≤ 2600 := hH.c _ _
  have w15 : -2 ≤ Xi S 904 78 ∧ Xi S 904 78 ≤ 5010 := hH.c _ _
  have w16 : 0 ≤ Xi S 904 81 ∧ Xi S 904 81 ≤ 5010 := hH.c _ _
  have w17 : 0 ≤ Xi S 904 94 ∧ Xi S 904 94 ≤ 1700 := hH.c _ _
  have w18 : 0 ≤ Xi S 904 98 ∧ Xi S 904 98 ≤ 1700 := hH.c _ _
  have w19 : 0 ≤ Xi S 951 0 ∧ Xi S 951 0 ≤ 5010 := hH.c _ _
  have w20 : 0 ≤ Xi S 951 1 ∧ Xi S 951 1 ≤ 5010 := hH.c _ _
  have hn5 := hT.1
  have hc69 : 0 ≤ Xi S 904 69 ∧ Xi S 904 69 ≤ 2600 := hH.c _ _
  have hc70 : 0 ≤ Xi S 904 70 ∧ Xi S 904 70 ≤ 20 := hH.c _ _
  have hc23 : 0 ≤ Xi S 904 23 ∧ Xi S 904 23 ≤ 24 := hH.c _ _
  have hrf : ∀ r : Int, 0 ≤ r → r < Xi S 904 69 → Xi S 950 r.toNat + Xi S 951 r.toNat ≤ n ∧ 1 ≤ Xi S 951 r.toNat := fun r a b => hv r.toNat (by omega)
  have hq0 : KQL S S (Xi S 904 117) := KQL.rf
  intro T13 hHT13 hFT13 w594 w595 w596 w597 w598 w599 w600 w601 w602 w603 w604 w605 w606 w607 w608 w609 q20 r20 K20 w610
  have w611 : Xi T13 904 102 = Xi S 904 102 := hFT13.x _ _ rfl
  have w612 : Xi T13 904 103 = Xi S 904 103 := hFT13.x _ _ rfl
  have w613 : Xi T13 904 16 = Xi S 904 16 := hFT13.x _ _ rfl
  have w614 : Xi T13 904 18 = Xi S 904 18 := hFT13.x _ _ rfl
  have w615 : Xi T13 904 19 = Xi S 904 19 := hFT13.x _ _ rfl
  have w616 : Xi T13 904 23 = Xi S 904 23 := hFT13.x _ _ rfl
  have w617 : Xi T13 904 30 = Xi S 904 30 := hFT13.x _ _ rfl
  have w618 : Xi T13 904 41 = Xi S 904 41 := hFT13.x _ _ rfl
  have w619 : Xi T13 904 47 = Xi S 904 47 := hFT13.x _ _ rfl
  have w620 : Xi T13 904 49 = Xi S 904 49 := hFT13.x _ _ rfl
  have w621 : Xi T13 904 55 = Xi S 904 55 := hFT13.x _ _ rfl
  have w622 : Xi T13 904 60 = Xi S 904 60 := hFT13.x _ _ rfl
  have w623 : Xi T13 904 69 = Xi S 904 69 := hFT13.x _ _ rfl
  have w624 : Xi T13 904 70 = Xi S 904 70 := hFT13.x _ _ rfl
  have w625 : Xi T13 904 71 = Xi S 904 71 := hFT13.x _ _ rfl
  have w626 : Xi T13 904 72 = Xi S 904 72 := hFT13.x _ _ rfl
  have w627 : Xi T13 904 73 = Xi S 904 73 := hFT13.x _ _ rfl
  have w628 : Xi T13 904 74 = Xi S 904 74 := hFT13.x _ _ rfl
  have w629 : Xi T13 904 78 = Xi S 904 78 := hFT13.x _ _ rfl
  have w630 : Xi T13 904 81 = Xi S 904 81 := hFT13.x _ _ rfl
  have w631 : Xi T13 904 94 = Xi S 904 94 := hFT13.x _ _ rfl
  have w632 : Xi T13 904 98 = Xi S 904 98 := hFT13.x _ _ rfl
  have w633 : Xi T13 951 0 = Xi S 951 0 := hFT13.x _ _ rfl
  have w634 : Xi T13 951 1 = Xi S 951 1 := hFT13.x _ _ rfl
  have w635 : 0 ≤ Xi T13 904 106 ∧ Xi T13 904 106 ≤ 9 := hHT13.c _ _
  have w636 : 0 ≤ Xi T13 904 108 ∧ Xi T13 904 108 ≤ 2600 := hHT13.c _ _
  have w637 : -1 ≤ Xi T13 904 115 ∧ Xi T13 904 115 ≤ 15 := hHT13.c _ _
  have w638 : -1 ≤ Xi T13 904 116 ∧ Xi T13 904 116 ≤ 15 := hHT13.c _ _
  have w639 : 0 ≤ Xi T13 904 117 ∧ Xi T13 904 117 ≤ 480 := hHT13.c _ _
  have w640 : -1 ≤ Xi T13 904 60 ∧ Xi T13 904 60 ≤ 23 := hHT13.c _ _
  have w641 : 0 ≤ Xi T13 904 69 ∧ Xi T13 904 69 ≤ 2600 := hHT13.c _ _
  have w642 : 0 ≤ Xi T13 904 70 ∧ Xi T13 904 70 ≤ 20 := hHT13.c _ _
  have w643 : 0 ≤ Xi T13 904 71 ∧ Xi T13 904 71 ≤ 2600 := hHT13.c _ _
  have w644 : 0 ≤ Xi T13 904 72 ∧ Xi T13 904 72 ≤ 2600 := hHT13.c _ _
  have w645 : 0 ≤ Xi T13 904 73 ∧ Xi T13 904 73 ≤ 5 := hHT13.c _ _
  have w646 : 0 ≤ Xi T13 904 74 ∧ Xi T13 904 74 ≤ 2600 := hHT13.c _ _
  have w647 : -2 ≤ Xi T13 904 78 ∧ Xi T13 904 78 ≤ 5010 := hHT13.c _ _
  have w648 : 0 ≤ Xi T13 904 81 ∧ Xi T13 904 81 ≤ 5010 := hHT13.c _ _
  have w649 : 0 ≤ Xi T13 904 94 ∧ Xi T13 904 94 ≤ 1700 := hHT13.c _ _
  have w650 : 0 ≤ Xi T13 904 98 ∧ Xi T13 904 98 ≤ 1700 := hHT13.c _ _
  refine l_aload_n rfl rfl ?_
  have s183 := q20.2.2.1 (by omega)
  have w656 : 0 ≤ Xi T13 904 142 ∧ Xi T13 904 142 ≤ 4 := hHT13.c _ _
  have w657 : 0 ≤ Xi T13 904 47 ∧ Xi T13 904 47 ≤ 8 := hHT13.c _ _
  have w669 : 0 ≤ Xi T13 951 0 ∧ Xi T13 951 0 ≤ 5010 := hHT13.c _ _
  refine l_callV rfl rfl rfl (t_mo_askVerb hHT13 n (by first | assumption | exact (TK_FR hFT13 rfl (by assumption : TK S _))) (by first | assumption | exact (RNV_FR hFT13 rfl (by assumption : RNV S _))) (by first | assumption | exact (LXM_FR hFT13 rfl (by assumption : LXM S))) (by first | assumption | exact fun k hk => absurd hk (by omega) | exact (by assumption : NWV T13)) (by first | assumption | omega) _) ?_
  rintro _ T14 ⟨hHT14, w671, rfl, f184⟩
  have hFT14 : FR md_mo_asked S T14 := FR.tr hFT13 w671 rfl
  show Rl _ _ _ _ _ [] _ _
  have y184_69 : Xi T14 904 69 = Xi T13 904 69 := ((show Xi T14 904 69 = Xi T13 904 69 from w671.x _ _ rfl))
  have y184_70 : Xi T14 904 70 = Xi T13 904 70 := ((show Xi T14 904 70 = Xi T13 904 70 from w671.x _ _ rfl))
  have y184_71 : Xi T14 904 71 = Xi T13 904 71 := ((show Xi T14 904 71 = Xi T13 904 71 from w671.x _ _ rfl))
  have y184_72 : Xi T14 904 72 = Xi T13 904 72 := ((show Xi T14 904 72 = Xi T13 904 72 from w671.x _ _ rfl))
  have y184_73 : Xi T14 904 73 = Xi T13 904 73 := ((show Xi T14 904 73 = Xi T13 904 73 from w671.x _ _ rfl))
  have y184_74 : Xi T14 904 74 = Xi T13 904 74 := ((show Xi T14 904 74 = Xi T13 904 74 from w671.x _ _ rfl))
  have y184_78 : Xi T14 904 78 = Xi T13 904 78 := ((show Xi T14 904 78 = Xi T13 904 78 from w671.x _ _ rfl))
  have y184_81 : Xi T14 904 81 = Xi T13 904 81 := ((show Xi T14 904 81 = Xi T13 904 81 from w671.x _ _ rfl))
  have y184_94 : Xi T14 904 94 = Xi T13 904 94 := ((show Xi T14 904 94 = Xi T13 904 94 from w671.x _ _ rfl))
  have y184_98 : Xi T14 904 98 = Xi T13 904 98 := ((show Xi T14 904 98 = Xi T13 904 98 from w671.x _ _ rfl))
  have y184_60 : Xi T14 904 60 = Xi T13 904 60 := ((show Xi T14 904 60 = Xi T13 904 60 from w671.x _ _ rfl))
  have y184_117 : Xi T14 904 117 = Xi T13 904 117 := ((show Xi T14 904 117 = Xi T13 904 117 from w671.x _ _ rfl))
  have u184_47 : Xi T14 904 47 = Xi S 904 47 := hFT14.x 904 47 rfl
  have F184 : Xi T14 904 106 = 0 → DOK T14 := fun q => dok_7 (by omega) (⟨by have t := (f184 q).1; have u : Xi T13 904 47 = Xi S 904 47 := hFT13.x 904 47 rfl; omega, by rw [rnR_FR hFT14 rfl rfl]; have t := (f184 q).2.1; rw [rnR_FR hFT13 rfl rfl] at t; exact t, by rw [(hFT14.cx 951 rfl _).1, ← (hFT13.cx 951 rfl _).1]; exact (f184 q).2.2⟩)
  refine l_goto rfl rfl ?_
  refine l_return rfl rfl ?_
  have w672 : 0 ≤ Xi T14 904 106 ∧ Xi T14 904 106 ≤ 9 := hHT14.c _ _
  exact ⟨hHT14, hFT14, rfl, (by assumption), (by first | exact fun q => by assumption | assumption | exact fun q => (RDT_FR hHT13 w671 rfl rfl rfl (by assumption : RDT T13)))⟩
set_option maxRecDepth 100000 in
set_option maxHeartbeats 8000000 in
theorem c224_mo_asked {S : sS} (hH : HI S) (n : Nat) (dd : Nat) (first : Int) (hfirst : 0 ≤ first ∧ first ≤ 5001) (hT : TK S n) (hv : RNV S n) (hM : LXM S) (hB : ABV S) (hC : DCM S) (hK : TXK S n) (hX : TXM S) (hq : SNQ S n) (hap : AP9 S n) (h94 : Xi S 904 94 ≤ 1668) (hRD : RDT S) (hPF : PF S) (hdt : Xi S 904 70 = 20 → first ≤ dd ∧ dd < n ∧ Xi S 907 dd = 46) (d : Nat) : ∀  (T15 : sS) (_ : HI T15) (_ : FR md_mo_asked S T15), (Xi T15 904 117 = Xi S 904 117) → (Xi T15 904 60 = Xi S 904 60) → (Xi T15 904 69 = Xi S 904 69) → (Xi T15 904 70 = Xi S 904 70) → (Xi T15 904 71 = Xi S 904 71) → (Xi T15 904 72 = Xi S 904 72) → (Xi T15 904 73 = Xi S 904 73) → (Xi T15 904 74 = Xi S 904 74) → (Xi T15 904 78 = Xi S 904 78) → (Xi T15 904 81 = Xi S 904 81) → (Xi T15 904 94 = Xi S 904 94) → (Xi T15 904 98 = Xi S 904 98) → (NWV T15) → (RDT T15) → (Xi S 904 70 = 8) → (2 ≤ Xi S 904 69) → (Xi T15 904 108 = 0) → (Xi T15 904 106 = 0 → r2R S 0 0 1 ≠ -1 ∨ r2R S 0 2 3 ≠ -1) → Rl lay0 (d + 12) m_mo_asked 224 [(0, .ref 904)] [] T15 (Q_mo_asked S n dd first) := by
  have hF : FR md_mo_asked S S := FR.rf
  have w1 : 0 ≤ Xi S 904 106 ∧ Xi S 904 106 ≤ 9 := hH.c _ _
  have w2 : 0 ≤ Xi S 904 108 ∧ Xi S 904 108 ≤ 2600 := hH.c _ _
  have w3 : -1 ≤ Xi S 904 115 ∧ Xi S 904 115 ≤ 15 := hH.c _ _
  have w4 : -1 ≤ Xi S 904 116 ∧ Xi S 904 116 ≤ 15 := hH.c _ _
  have w5 : 0 ≤ Xi S 904 117 ∧ Xi S 904 117 ≤ 480 := hH.c _ _
  have w6 : 0 ≤ Xi S 904 23 ∧ Xi S 904 23 ≤ 24 := hH.c _ _
  have w7 : 0 ≤ Xi S 904 41 ∧ Xi S 904 41 ≤ 6 := hH.c _ _
  have w8 : -1 ≤ Xi S 904 60 ∧ Xi S 904 60 ≤ 23 := hH.c _ _
  have w9 : 0 ≤ Xi S 904 69 ∧ Xi S 904 69 ≤ 2600 := hH.c _ _
  have w10 : 0 ≤ Xi S 904 70 ∧ Xi S 904 70 ≤ 20 := hH.c _ _
  have w11 : 0 ≤ Xi S 904 71 ∧ Xi S 904 71 ≤ 2600 := hH.c _ _
  have w12 : 0 ≤ Xi S 904 72 ∧ Xi S 904 72 ≤ 2600 := hH.c _ _
  have w13 : 0 ≤ Xi S 904 73 ∧ Xi S 904 73 ≤ 5 := hH.c _ _
  have w14 : 0 ≤ Xi S 904 74 ∧ Xi S 904 74 ≤ 2600 := hH.c _ _
  have w15 : -2 ≤ Xi S 904 78 ∧ Xi S 904 78 ≤ 5010 := hH.c _ _
  have w16 : 0 ≤ Xi S 904 81 ∧ Xi S 904 81 ≤ 5010 := hH.c _ _
  have w17 : 0 ≤ Xi S 904 94 ∧ Xi S 904 94 ≤ 1700 := hH.c _ _
  have w18 : 0 ≤ Xi S 904 98 ∧ Xi S 904 98 ≤ 1700 := hH.c _ _
  have w19 : 0 ≤ Xi S 951 0 ∧ Xi S 951 0 ≤ 5010 := hH.c _ _
  have w20 : 0 ≤ Xi S 951 1 ∧ Xi S 951 1 ≤ 5010 := hH.c _ _
  have hn5 := hT.1
  have hc69 : 0 ≤ Xi S 904 69 ∧ Xi S 904 69 ≤ 2600 := hH.c _ _
  have hc70 : 0 ≤ Xi S 904 70 ∧ Xi S 904 70 ≤ 20 := hH.c _ _
  have hc23 : 0 ≤ Xi S 904 23 ∧ Xi S 904 23 ≤ 24 := hH.c _ _
  have hrf : ∀ r : Int, 0 ≤ r → r < Xi S 904 69 → Xi S 950 r.toNat + Xi S 951 r.toNat ≤ n ∧ 1 ≤ Xi S 951 r.toNat := fun r a b => hv r.toNat (by omega)
  have hq0 : KQL S S (Xi S 904 117) := KQL.rf
  intro T15 hHT15 hFT15 w706 w707 w708 w709 w710 w711 w712 w713 w714 w715 w716 w717 N224 R224 w718 w719 w720 E224
  have w721 : Xi T15 904 102 = Xi S 904 102 := hFT15.x _ _ rfl
  have w722 : Xi T15 904 103 = Xi S 904 103 := hFT15.x _ _ rfl
  have w723 : Xi T15 904 16 = Xi S 904 16 := hFT15.x _ _ rfl
  have w724 : Xi T15 904 18 = Xi S 904 18 := hFT15.x _ _ rfl
  have w725 : Xi T15 904 19 = Xi S 904 19 := hFT15.x _ _ rfl
  have w726 : Xi T15 904 23 = Xi S 904 23 := hFT15.x _ _ rfl
  have w727 : Xi T15 904 30 = Xi S 904 30 := hFT15.x _ _ rfl
  have w728 : Xi T15 904 41 = Xi S 904 41 := hFT15.x _ _ rfl
  have w729 : Xi T15 904 47 = Xi S 904 47 := hFT15.x _ _ rfl
  have w730 : Xi T15 904 49 = Xi S 904 49 := hFT15.x _ _ rfl
  have w731 : Xi T15 904 55 = Xi S 904 55 := hFT15.x _ _ rfl
  have w732 : Xi T15 904 60 = Xi S 904 60 := hFT15.x _ _ rfl
  have w733 : Xi T15 904 69 = Xi S 904 69 := hFT15.x _ _ rfl
  have w734 : Xi T15 904 70 = Xi S 904 70 := hFT15.x _ _ rfl
  have w735 : Xi T15 904 71 = Xi S 904 71 := hFT15.x _ _ rfl
  have w736 : Xi T15 904 72 = Xi S 904 72 := hFT15.x _ _ rfl
  have w737 : Xi T15 904 73 = Xi S 904 73 := hFT15.x _ _ rfl
  have w738 : Xi T15 904 74 = Xi S 904 74 := hFT15.x _ _ rfl
  have w739 : Xi T15 904 78 = Xi S 904 78 := hFT15.x _ _ rfl
  have w740 : Xi T15 904 81 = Xi S 904 81 := hFT15.x _ _ rfl
  have w741 : Xi T15 904 94 = Xi S 904 94 := hFT15.x _ _ rfl
  have w742 : Xi T15 904 98 = Xi S 904 98 := hFT15.x _ _ rfl
  have w743 : Xi T15 951 0 = Xi S 951 0 := hFT15.x _ _ rfl
  have w744 : Xi T15 951 1 = Xi S 951 1 := hFT15.x _ _ rfl
  have w745 : 0 ≤ Xi T15 904 106 ∧ Xi T15 904 106 ≤ 9 := hHT15.c _ _
  have w746 : 0 ≤ Xi T15 904 108 ∧ Xi T15 904 108 ≤ 2600 := hHT15.c _ _
  have w747 : 0 ≤ Xi T15 904 117 ∧ Xi T15 904 117 ≤ 480 := hHT15.c _ _
  have w748 : -1 ≤ Xi T15 904 60 ∧ Xi T15 904 60 ≤ 23 := hHT15.c _ _
  have w749 : 0 ≤ Xi T15 904 69 ∧ Xi T15 904 69 ≤ 2600 := hHT15.c _ _
  have w750 : 0 ≤ Xi T15 904 70 ∧ Xi T15 904 70 ≤ 20 := hHT15.c _ _
  have w751 : 0 ≤ Xi T15 904 71 ∧ Xi T15 904 71 ≤ 2600 := hHT15.c _ _
  have w752 : 0 ≤ Xi T15 904 72 ∧ Xi T15 904 72 ≤ 2600 := hHT15.c _ _
  have w753 : 0 ≤ Xi T15 904 73 ∧ Xi T15 904 73 ≤ 5 := hHT15.c _ _
  have w754 : 0 ≤ Xi T15 904 74 ∧ Xi T15 904 74 ≤ 2600 := hHT15.c _ _
  have w755 : -2 ≤ Xi T15 904 78 ∧ Xi T15 904 78 ≤ 5010 := hHT15.c _ _
  have w756 : 0 ≤ Xi T15 904 81 ∧ Xi T15 904 81 ≤ 5010 := hHT15.c _ _
  have w757 : 0 ≤ Xi T15 904 94 ∧ Xi T15 904 94 ≤ 1700 := hHT15.c _ _
  have w758 : 0 ≤ Xi T15 904 98 ∧ Xi T15 904 98 ≤ 1700 := hHT15.c _ _
  refine l_aload_n rfl rfl ?_
  refine l_iconst rfl ?_
  refine l_iconst rfl ?_
  refine l_iconst rfl ?_
  have w761 : -1 ≤ Xi T15 904 115 ∧ Xi T15 904 115 ≤ 15 := hHT15.c _ _
  have w762 : -1 ≤ Xi T15 904 116 ∧ Xi T15 904 116 ≤ 15 := hHT15.c _ _
  have w764 : 0 ≤ Xi T15 904 142 ∧ Xi T15 904 142 ≤ 4 := hHT15.c _ _
  refine l_callV rfl rfl rfl (t_mo_mustBeNew__2 hHT15 n 1 0 1 ⟨by omega, by omega⟩ ⟨by omega, by omega⟩ ⟨by omega, by omega⟩ (by first | assumption | exact (TK_FR hFT15 rfl (by assumption : TK S _))) (by first | assumption | exact (RNV_FR hFT15 rfl (by assumption : RNV S _))) (by first | assumption | omega) (by first | assumption | exact fun k hk => absurd hk (by omega) | exact (by assumption : NWV T15)) (by first | assumption | omega) _) ?_
  rintro _ T16 ⟨hHT16, w781, rfl, w776, g228, w777, w778, w779⟩
  have hFT16 : FR md_mo_asked S T16 := FR.tr hFT15 w781 rfl
  show Rl _ _ _ _ _ [] _ _
  have y228_69 : Xi T16 904 69 = Xi T15 904 69 := ((show Xi T16 904 69 = Xi T15 904 69 from w781.x _ _ rfl))
  have y228_70 : Xi T16 904 70 = Xi T15 904 70 := ((show Xi T16 904 70 = Xi T15 904 70 from w781.x _ _ rfl))
  have y228_71 : Xi T16 904 71 = Xi T15 904 71 := ((show Xi T16 904 71 = Xi T15 904 71 from w781.x _ _ rfl))
  have y228_72 : Xi T16 904 72 = Xi T15 904 72 := ((show Xi T16 904 72 = Xi T15 904 72 from w781.x _ _ rfl))
  have y228_73 : Xi T16 904 73 = Xi T15 904 73 := ((show Xi T16 904 73 = Xi T15 904 73 from w781.x _ _ rfl))
  have y228_74 : Xi T16 904 74 = Xi T15 904 74 := ((show Xi T16 904 74 = Xi T15 904 74 from w781.x _ _ rfl))
  have y228_78 : Xi T16 904 78 = Xi T15 904 78 := ((show Xi T16 904 78 = Xi T15 904 78 from w781.x _ _ rfl))
  have y228_81 : Xi T16 904 81 = Xi T15 904 81 := ((show Xi T16 904 81 = Xi T15 904 81 from w781.x _ _ rfl))
  have y228_94 : Xi T16 904 94 = Xi T15 904 94 := ((show Xi T16 904 94 = Xi T15 904 94 from w781.x _ _ rfl))
  have y228_98 : Xi T16 904 98 = Xi T15 904 98 := ((show Xi T16 904 98 = Xi T15 904 98 from w781.x _ _ rfl))
  have y228_60 : Xi T16 904 60 = Xi T15 904 60 := ((show Xi T16 904 60 = Xi T15 904 60 from w781.x _ _ rfl))
  have y228_117 : Xi T16 904 117 = Xi T15 904 117 := ((show Xi T16 904 117 = Xi T15 904 117 from w781.x _ _ rfl))
  have G228 : Xi T16 904 106 = 0 → Xi S 951 1 ≤ 3 := fun q => (by have u := (g228 q).2.1; rw [(hFT15.cx 951 rfl _).1] at u; exact u)
  have F228 : Xi T16 904 106 = 0 → DOK T16 := fun q => dok_8 (by omega) (⟨by rw [(hFT16.cx 951 rfl _).1]; exact G228 q, by rw [r2R_FR hFT16 rfl rfl, r2R_FR hFT16 rfl rfl]; exact E224 (by omega)⟩)
  refine l_goto rfl rfl ?_
  refine l_return rfl rfl ?_
  have w782 : 0 ≤ Xi T16 904 106 ∧ Xi T16 904 106 ≤ 9 := hHT16.c _ _
  exact ⟨hHT16, hFT16, rfl, (by assumption), (by first | exact fun q => by assumption | assumption | exact fun q => (RDT_FR hHT15 w781 rfl rfl rfl (by assumption : RDT T15)))⟩
set_option maxRecDepth 100000 in
set_option maxHeartbeats 8000000 in
theorem c190_mo_asked {S : sS} (hH : HI S) (n : Nat) (dd : Nat) (first : Int) (hfirst : 0 ≤ first ∧ first ≤ 5001) (hT : TK S n) (hv : RNV S n) (hM : LXM S) (hB : ABV S) (hC : DCM S) (hK : TXK S n) (hX : TXM S) (hq : SNQ S n) (hap : AP9 S n) (h94 : Xi S 904 94 ≤ 1668) (hRD : RDT S) (hPF : PF S) (hdt : Xi S 904 70 = 20 → first ≤ dd ∧ dd < n ∧ Xi S 907 dd = 46) (d : Nat) : ∀  (T17 : sS) (_ : HI T17) (_ : FR md_mo_asked S T17), (Xi T17 904 117 = Xi S 904 117) → (Xi T17 904 69 = Xi S 904 69) → (Xi T17 904 70 = Xi S 904 70) → (Xi T17 904 71 = Xi S 904 71) → (Xi T17 904 72 = Xi S 904 72) → (Xi T17 904 73 = Xi S 904 73) → (Xi T17 904 74 = Xi S 904 74) → (Xi T17 904 78 = Xi S 904 78) → (Xi T17 904 81 = Xi S 904 81) → (Xi T17 904 94 = Xi S 904 94) → (Xi T17 904 98 = Xi S 904 98) → (Xi T17 904 60 = Xi S 904 60) → (Xi T17 904 106 = 0) → (Xi T17 904 108 = 0) → (Xi T17 904 115 = -1) → (Xi T17 904 116 = -1) → (SNQ T17 n) → (RDT T17) → (KQL T17 S (Xi S 904 117)) → (Xi S 904 70 = 8) → Rl lay0 (d + 12) m_mo_asked 190 [(0, .ref 904)] [] T17 (Q_mo_asked S n dd first) := by
  have C224 := c224_mo_asked hH n dd first hfirst hT hv hM hB hC hK hX hq hap h94 hRD hPF hdt d 
  have hF : FR md_mo_asked S S := FR.rf
  have w1 : 0 ≤ Xi S 904 106 ∧ Xi S 904 106 ≤ 9 := hH.c _ _
  have w2 : 0 ≤ Xi S 904 108 ∧ Xi S 904 108 ≤ 2600 := hH.c _ _
  have w3 : -1 ≤ Xi S 904 115 ∧ Xi S 904 115 ≤ 15 := hH.c _ _
  have w4 : -1 ≤ Xi S 904 116 ∧ Xi S 904 116 ≤ 15 := hH.c _ _
  have w5 : 0 ≤ Xi S 904 117 ∧ Xi S 904 117 ≤ 480 := hH.c _ _
  have w6 : 0 ≤ Xi S 904 23 ∧ Xi S 904 23 ≤ 24 := hH.c _ _
  have w7 : 0 ≤ Xi S 904 41 ∧ Xi S 904 41 ≤ 6 := hH.c _ _
  have w8 : -1 ≤ Xi S 904 60 ∧ Xi S 904 60 ≤ 23 := hH.c _ _
  have w9 : 0 ≤ Xi S 904 69 ∧ Xi S 904 69 ≤ 2600 := hH.c _ _
  have w10 : 0 ≤ Xi S 904 70 ∧ Xi S 904 70 ≤ 20 := hH.c _ _
  have w11 : 0 ≤ Xi S 904 71 ∧ Xi S 904 71 ≤ 2600 := hH.c _ _
  have w12 : 0 ≤ Xi S 904 72 ∧ Xi S 904 72 ≤ 2600 := hH.c _ _
  have w13 : 0 ≤ Xi S 904 73 ∧ Xi S 904 73 ≤ 5 := hH.c _ _
  have w14 : 0 ≤ Xi S 904 74 ∧ Xi S 904 74 ≤ 2600 := hH.c _ _
  have w15 : -2 ≤ Xi S 904 78 ∧ Xi S 904 78 ≤ 5010 := hH.c _ _
  have w16 : 0 ≤ Xi S 904 81 ∧ Xi S 904 81 ≤ 5010 := hH.c _ _
  have w17 : 0 ≤ Xi S 904 94 ∧ Xi S 904 94 ≤ 1700 := hH.c _ _
  have w18 : 0 ≤ Xi S 904 98 ∧ Xi S 904 98 ≤ 1700 := hH.c _ _
  have w19 : 0 ≤ Xi S 951 0 ∧ Xi S 951 0 ≤ 5010 := hH.c _ _
  have w20 : 0 ≤ Xi S 951 1 ∧ Xi S 951 1 ≤ 5010 := hH.c _ _
  have hn5 := hT.1
  have hc69 : 0 ≤ Xi S 904 69 ∧ Xi S 904 69 ≤ 2600 := hH.c _ _
  have hc70 : 0 ≤ Xi S 904 70 ∧ Xi S 904 70 ≤ 20 := hH.c _ _
  have hc23 : 0 ≤ Xi S 904 23 ∧ Xi S 904 23 ≤ 24 := hH.c _ _
  have hrf : ∀ r : Int, 0 ≤ r → r < Xi S 904 69 → Xi S 950 r.toNat + Xi S 951 r.toNat ≤ n ∧ 1 ≤ Xi S 951 r.toNat := fun r a b => hv r.toNat (by omega)
  have hq0 : KQL S S (Xi S 904 117) := KQL.rf
  intro T17 hHT17 hFT17 w815 w816 w817 w818 w819 w820 w821 w822 w823 w824 w825 w826 w827 w828 w829 w830 q20 r20 K20 w831
  have w832 : Xi T17 904 102 = Xi S 904 102 := hFT17.x _ _ rfl
  have w833 : Xi T17 904 103 = Xi S 904 103 := hFT17.x _ _ rfl
  have w834 : Xi T17 904 16 = Xi S 904 16 := hFT17.x _ _ rfl
  have w835 : Xi T17 904 18 = Xi S 904 18 := hFT17.x _ _ rfl
  have w836 : Xi T17 904 19 = Xi S 904 19 := hFT17.x _ _ rfl
  have w837 : Xi T17 904 23 = Xi S 904 23 := hFT17.x _ _ rfl
  have w838 : Xi T17 904 30 = Xi S 904 30 := hFT17.x _ _ rfl
  have w839 : Xi T17 904 41 = Xi S 904 41 := hFT17.x _ _ rfl
  have w840 : Xi T17 904 47 = Xi S 904 47 := hFT17.x _ _ rfl
  have w841 : Xi T17 904 49 = Xi S 904 49 := hFT17.x _ _ rfl
  have w842 : Xi T17 904 55 = Xi S 904 55 := hFT17.x _ _ rfl
  have w843 : Xi T17 904 60 = Xi S 904 60 := hFT17.x _ _ rfl
  have w844 : Xi T17 904 69 = Xi S 904 69 := hFT17.x _ _ rfl
  have w845 : Xi T17 904 70 = Xi S 904 70 := hFT17.x _ _ rfl
  have w846 : Xi T17 904 71 = Xi S 904 71 := hFT17.x _ _ rfl
  have w847 : Xi T17 904 72 = Xi S 904 72 := hFT17.x _ _ rfl
  have w848 : Xi T17 904 73 = Xi S 904 73 := hFT17.x _ _ rfl
  have w849 : Xi T17 904 74 = Xi S 904 74 := hFT17.x _ _ rfl
  have w850 : Xi T17 904 78 = Xi S 904 78 := hFT17.x _ _ rfl
  have w851 : Xi T17 904 81 = Xi S 904 81 := hFT17.x _ _ rfl
  have w852 : Xi T17 904 94 = Xi S 904 94 := hFT17.x _ _ rfl
  have w853 : Xi T17 904 98 = Xi S 904 98 := hFT17.x _ _ rfl
  have w854 : Xi T17 951 0 = Xi S 951 0 := hFT17.x _ _ rfl
  have w855 : Xi T17 951 1 = Xi S 951 1 := hFT17.x _ _ rfl
  have w856 : 0 ≤ Xi T17 904 106 ∧ Xi T17 904 106 ≤ 9 := hHT17.c _ _
  have w857 : 0 ≤ Xi T17 904 108 ∧ Xi T17 904 108 ≤ 2600 := hHT17.c _ _
  have w858 : -1 ≤ Xi T17 904 115 ∧ Xi T17 904 115 ≤ 15 := hHT17.c _ _
  have w859 : -1 ≤ Xi T17 904 116 ∧ Xi T17 904 116 ≤ 15 := hHT17.c _ _
  have w860 : 0 ≤ Xi T17 904 117 ∧ Xi T17 904 117 ≤ 480 := hHT17.c _ _
  have w861 : -1 ≤ Xi T17 904 60 ∧ Xi T17 904 60 ≤ 23 := hHT17.c _ _
  have w862 : 0 ≤ Xi T17 904 69 ∧ Xi T17 904 69 ≤ 2600 := hHT17.c _ _
  have w863 : 0 ≤ Xi T17 904 70 ∧ Xi T17 904 70 ≤ 20 := hHT17.c _ _
  have w864 : 0 ≤ Xi T17 904 71 ∧ Xi T17 904 71 ≤ 2600 := hHT17.c _ _
  have w865 : 0 ≤ Xi T17 904 72 ∧ Xi T17 904 72 ≤ 2600 := hHT17.c _ _
  have w866 : 0 ≤ Xi T17 904 73 ∧ Xi T17 904 73 ≤ 5 := hHT17.c _ _
  have w867 : 0 ≤ Xi T17 904 74 ∧ Xi T17 904 74 ≤ 2600 := hHT17.c _ _
  have w868 : -2 ≤ Xi T17 904 78 ∧ Xi T17 904 78 ≤ 5010 := hHT17.c _ _
  have w869 : 0 ≤ Xi T17 904 81 ∧ Xi T17 904 81 ≤ 5010 := hHT17.c _ _
  have w870 : 0 ≤ Xi T17 904 94 ∧ Xi T17 904 94 ≤ 1700 := hHT17.c _ _
  have w871 : 0 ≤ Xi T17 904 98 ∧ Xi T17 904 98 ≤ 1700 := hHT17.c _ _
  refine l_aload_n rfl rfl ?_
  have s190 := q20.2.2.1 (by omega)
  have z190_0 : Xi S 950 0 + Xi S 951 0 ≤ n := (hv 0 (by omega)).1
  have z190_1 : Xi S 950 1 + Xi S 951 1 ≤ n := (hv 1 (by omega)).1
  refine l_aload_n rfl rfl ?_
  refine l_iconst rfl ?_
  have w878 : 0 ≤ Xi T17 904 16 ∧ Xi T17 904 16 ≤ 16 := hHT17.c _ _
  refine l_callV rfl rfl rfl (t_mo_kindOrPlural__2 hHT17 n 0 ⟨by omega, by omega⟩ (by first | assumption | exact (TK_FR hFT17 rfl (by assumption : TK S _))) (by first | assumption | exact (RNV_FR hFT17 rfl (by assumption : RNV S _))) (by first | assumption | omega) (by first | assumption | exact (LXM_FR hFT17 rfl (by assumption : LXM S))) _) ?_
  rintro _ _ ⟨rfl, z892, rfl, w892, w890, w891⟩
  show Rl _ _ _ _ _ [iv z892, .ref 904] _ _
  have r193 : z892 = r2R S 0 0 1 := (by assumption : z892 = r2R T17 _ _ _).trans (r2R_FR hFT17 rfl rfl)
  refine l_iconst rfl ?_
  refine l_icmp_ne rfl rfl (by unfold rg; omega) (by unfold rg; omega) (fun w893 => ?_) (fun w894 => ?_)
  · refine l_iconst rfl ?_
    refine l_goto rfl rfl ?_
    refine l_iconst rfl ?_
    refine l_aload_n rfl rfl ?_
    refine l_gfr rfl rfl rfl rfl rfl (hHT17.r 904 67 950 rfl) ?_
    refine l_iconst rfl ?_
    refine l_iaload (n := 2600) rfl rfl (by omega) (by omega) (by unfold rg; omega) ?_
    have w895 : 0 ≤ (Xi T17 950 ((0 : Int).toNat)) ∧ (Xi T17 950 ((0 : Int).toNat)) ≤ 5010 := hHT17.c _ _
    have w896 : (Xi T17 950 ((0 : Int).toNat)) = Xi T17 950 0 := rfl
    have e220 : (Xi T17 950 ((0 : Int).toNat)) = Xi S 950 0 := by first | rfl | exact (hFT17.cx 950 rfl _).1
    refine l_callV rfl rfl rfl (t_mo_need hHT17 1 4 (Xi T17 950 ((0 : Int).toNat)) ⟨by omega, by omega⟩ ⟨by omega, by omega⟩ ⟨by omega, by omega⟩ _) ?_
    rintro _ T18 ⟨hHT18, w917, rfl, w914, w915⟩
    have hFT18 : FR md_mo_asked S T18 := FR.tr hFT17 w917 rfl
    show Rl _ _ _ _ _ [] _ _
    have w918 : 0 ≤ Xi T18 904 106 ∧ Xi T18 904 106 ≤ 9 := hHT18.c _ _
    have w919 : Xi T18 904 108 = Xi T17 904 108 := (show Xi T18 904 108 = Xi T17 904 108 from w917.x _ _ rfl)
    have w921 : Xi T18 904 109 = Xi T17 904 109 := (show Xi T18 904 109 = Xi T17 904 109 from w917.x _ _ rfl)
    have w922 : Xi T18 904 115 = Xi T17 904 115 := (show Xi T18 904 115 = Xi T17 904 115 from w917.x _ _ rfl)
    have w924 : Xi T18 904 116 = Xi T17 904 116 := (show Xi T18 904 116 = Xi T17 904 116 from w917.x _ _ rfl)
    have w926 : Xi T18 904 117 = Xi T17 904 117 := (show Xi T18 904 117 = Xi T17 904 117 from w917.x _ _ rfl)
    have w928 : Xi T18 904 142 = Xi T17 904 142 := (show Xi T18 904 142 = Xi T17 904 142 from w917.x _ _ rfl)
    have w929 : 0 ≤ Xi T17 904 142 ∧ Xi T17 904 142 ≤ 4 := hHT17.c _ _
    have w930 : Xi T18 904 60 = Xi T17 904 60 := (show Xi T18 904 60 = Xi T17 904 60 from w917.x _ _ rfl)
    have w932 : Xi T18 904 69 = Xi T17 904 69 := (show Xi T18 904 69 = Xi T17 904 69 from w917.x _ _ rfl)
    have w934 : Xi T18 904 70 = Xi T17 904 70 := (show Xi T18 904 70 = Xi T17 904 70 from w917.x _ _ rfl)
    have w936 : Xi T18 904 71 = Xi T17 904 71 := (show Xi T18 904 71 = Xi T17 904 71 from w917.x _ _ rfl)
    have w938 : Xi T18 904 72 = Xi T17 904 72 := (show Xi T18 904 72 = Xi T17 904 72 from w917.x _ _ rfl)
    have w940 : Xi T18 904 73 = Xi T17 904 73 := (show Xi T18 904 73 = Xi T17 904 73 from w917.x _ _ rfl)
    have w942 : Xi T18 904 74 = Xi T17 904 74 := (show Xi T18 904 74 = Xi T17 904 74 from w917.x _ _ rfl)
    have w944 : Xi T18 904 78 = Xi T17 904 78 := (show Xi T18 904 78 = Xi T17 904 78 from w917.x _ _ rfl)
    have w946 : Xi T18 904 81 = Xi T17 904 81 := (show Xi T18 904 81 = Xi T17 904 81 from w917.x _ _ rfl)
    have w948 : Xi T18 904 94 = Xi T17 904 94 := (show Xi T18 904 94 = Xi T17 904 94 from w917.x _ _ rfl)
    have w950 : Xi T18 904 98 = Xi T17 904 98 := (show Xi T18 904 98 = Xi T17 904 98 from w917.x _ _ rfl)
    exact Rl_weak (C224 T18 hHT18 hFT18  (by omega) (by omega) (by omega) (by omega) (by omega) (by omega) (by omega) (by omega) (by omega) (by omega) (by omega) (by omega) (by first | assumption | exact fun k hk => absurd hk (by omega) | exact (NWV_FR w917 rfl (by assumption : NWV T17))) (by first | assumption | exact (RDT_FR hHT17 w917 rfl rfl rfl (by assumption : RDT T17))) (by omega) (by omega) (by omega) (by first | exact fun q => Or.inl (by omega) | exact fun q => Or.inr (by omega) | exact fun q => absurd q (by omega))) (And.intro rfl (True.intro))
  · refine l_aload_n rfl rfl ?_
    refine l_iconst rfl ?_
    refine l_callV rfl rfl rfl (t_mo_typeOrPlural__2 hHT17 n 0 ⟨by omega, by omega⟩ (by first | assumption | exact (TK_FR hFT17 rfl (by assumption : TK S _))) (by first | assumption | exact (RNV_FR hFT17 rfl (by assumption : RNV S _))) (by first | assumption | omega) (by first | assumption | exact (LXM_FR hFT17 rfl (by assumption : LXM S))) _) ?_
    rintro _ _ ⟨rfl, z970, rfl, w970, w969⟩
    show Rl _ _ _ _ _ [iv z970, .ref 904] _ _
    have r202 : z970 = r2R S 0 2 3 := (by assumption : z970 = r2R T17 _ _ _).trans (r2R_FR hFT17 rfl rfl)
    refine l_iconst rfl ?_
    refine l_icmp_eq rfl rfl (by unfold rg; omega) (by unfold rg; omega) (fun w971 => ?_) (fun w972 => ?_)
    · refine l_iconst rfl ?_
      refine l_iconst rfl ?_
      refine l_aload_n rfl rfl ?_
      refine l_gfr rfl rfl rfl rfl rfl (hHT17.r 904 67 950 rfl) ?_
      refine l_iconst rfl ?_
      refine l_iaload (n := 2600) rfl rfl (by omega) (by omega) (by unfold rg; omega) ?_
      have w973 : 0 ≤ (Xi T17 950 ((0 : Int).toNat)) ∧ (Xi T17 950 ((0 : Int).toNat)) ≤ 5010 := hHT17.c _ _
      have w974 : (Xi T17 950 ((0 : Int).toNat)) = Xi T17 950 0 := rfl
      have e220 : (Xi T17 950 ((0 : Int).toNat)) = Xi S 950 0 := by first | rfl | exact (hFT17.cx 950 rfl _).1
      refine l_callV rfl rfl rfl (t_mo_need hHT17 0 4 (Xi T17 950 ((0 : Int).toNat)) ⟨by omega, by omega⟩ ⟨by omega, by omega⟩ ⟨by omega, by omega⟩ _) ?_
      rintro _ T19 ⟨hHT19, w995, rfl, w992, w993⟩
      have hFT19 : FR md_mo_asked S T19 := FR.tr hFT17 w995 rfl
      show Rl _ _ _ _ _ [] _ _
      have w996 : 0 ≤ Xi T19 904 106 ∧ Xi T19 904 106 ≤ 9 := hHT19.c _ _
      have w997 : Xi T19 904 108 = Xi T17 904 108 := (show Xi T19 904 108 = Xi T17 904 108 from w995.x _ _ rfl)
      have w999 : Xi T19 904 109 = Xi T17 904 109 := (show Xi T19 904 109 = Xi T17 904 109 from w995.x _ _ rfl)
      have w1000 : Xi T19 904 115 = Xi T17 904 115 := (show Xi T19 904 115 = Xi T17 904 115 from w995.x _ _ rfl)
      have w1002 : Xi T19 904 116 = Xi T17 904 116 := (show Xi T19 904 116 = Xi T17 904 116 from w995.x _ _ rfl)
      have w1004 : Xi T19 904 117 = Xi T17 904 117 := (show Xi T19 904 117 = Xi T17 904 117 from w995.x _ _ rfl)
      have w1006 : Xi T19 904 142 = Xi T17 904 142 := (show Xi T19 904 142 = Xi T17 904 142 from w995.x _ _ rfl)
      have w1007 : 0 ≤ Xi T17 904 142 ∧ Xi T17 904 142 ≤ 4 := hHT17.c _ _
      have w1008 : Xi T19 904 60 = Xi T17 904 60 := (show Xi T19 904 60 = Xi T17 904 60 from w995.x _ _ rfl)
      have w1010 : Xi T19 904 69 = Xi T17 904 69 := (show Xi T19 904 69 = Xi T17 904 69 from w995.x _ _ rfl)
      have w1012 : Xi T19 904 70 = Xi T17 904 70 := (show Xi T19 904 70 = Xi T17 904 70 from w995.x _ _ rfl)
      have w1014 : Xi T19 904 71 = Xi T17 904 71 := (show Xi T19 904 71 = Xi T17 904 71 from w995.x _ _ rfl)
      have w1016 : Xi T19 904 72 = Xi T17 904 72 := (show Xi T19 904 72 = Xi T17 904 72 from w995.x _ _ rfl)
      have w1018 : Xi T19 904 73 = Xi T17 904 73 := (show Xi T19 904 73 = Xi T17 904 73 from w995.x _ _ rfl)
      have w1020 : Xi T19 904 74 = Xi T17 904 74 := (show Xi T19 904 74 = Xi T17 904 74 from w995.x _ _ rfl)
      have w1022 : Xi T19 904 78 = Xi T17 904 78 := (show Xi T19 904 78 = Xi T17 904 78 from w995.x _ _ rfl)
      have w1024 : Xi T19 904 81 = Xi T17 904 81 := (show Xi T19 904 81 = Xi T17 904 81 from w995.x _ _ rfl)
      have w1026 : Xi T19 904 94 = Xi T17 904 94 := (show Xi T19 904 94 = Xi T17 904 94 from w995.x _ _ rfl)
      have w1028 : Xi T19 904 98 = Xi T17 904 98 := (show Xi T19 904 98 = Xi T17 904 98 from w995.x _ _ rfl)
      exact Rl_weak (C224 T19 hHT19 hFT19  (by omega) (by omega) (by omega) (by omega) (by omega) (by omega) (by omega) (by omega) (by omega) (by omega) (by omega) (by omega) (by first | assumption | exact fun k hk => absurd hk (by omega) | exact (NWV_FR w995 rfl (by assumption : NWV T17))) (by first | assumption | exact (RDT_FR hHT17 w995 rfl rfl rfl (by assumption : RDT T17))) (by omega) (by omega) (by omega) (by first | exact fun q => Or.inl (by omega) | exact fun q => Or.inr (by omega) | exact fun q => absurd q (by omega))) (And.intro rfl (True.intro))
    · refine l_iconst rfl ?_
      refine l_goto rfl rfl ?_
      refine l_iconst rfl ?_
      refine l_aload_n rfl rfl ?_
      refine l_gfr rfl rfl rfl rfl rfl (hHT17.r 904 67 950 rfl) ?_
      refine l_iconst rfl ?_
      refine l_iaload (n := 2600) rfl rfl (by omega) (by omega) (by unfold rg; omega) ?_
      have w1030 : 0 ≤ (Xi T17 950 ((0 : Int).toNat)) ∧ (Xi T17 950 ((0 : Int).toNat)) ≤ 5010 := hHT17.c _ _
      have w1031 : (Xi T17 950 ((0 : Int).toNat)) = Xi T17 950 0 := rfl
      have e220 : (Xi T17 950 ((0 : Int).toNat)) = Xi S 950 0 := by first | rfl | exact (hFT17.cx 950 rfl _).1
      refine l_callV rfl rfl rfl (t_mo_need hHT17 1 4 (Xi T17 950 ((0 : Int).toNat)) ⟨by omega, by omega⟩ ⟨by omega, by omega⟩ ⟨by omega, by omega⟩ _) ?_
      rintro _ T20 ⟨hHT20, w1052, rfl, w1049, w1050⟩
      have hFT20 : FR md_mo_asked S T20 := FR.tr hFT17 w1052 rfl
      show Rl _ _ _ _ _ [] _ _
      have w1053 : 0 ≤ Xi T20 904 106 ∧ Xi T20 904 106 ≤ 9 := hHT20.c _ _
      have w1054 : Xi T20 904 108 = Xi T17 904 108 := (show Xi T20 904 108 = Xi T17 904 108 from w1052.x _ _ rfl)
      have w1056 : Xi T20 904 109 = Xi T17 904 109 := (show Xi T20 904 109 = Xi T17 904 109 from w1052.x _ _ rfl)
      have w1057 : Xi T20 904 115 = Xi T17 904 115 := (show Xi T20 904 115 = Xi T17 904 115 from w1052.x _ _ rfl)
      have w1059 : Xi T20 904 116 = Xi T17 904 116 := (show Xi T20 904 116 = Xi T17 904 116 from w1052.x _ _ rfl)
      have w1061 : Xi T20 904 117 = Xi T17 904 117 := (show Xi T20 904 117 = Xi T17 904 117 from w1052.x _ _ rfl)
      have w1063 : Xi T20 904 142 = Xi T17 904 142 := (show Xi T20 904 142 = Xi T17 904 142 from w1052.x _ _ rfl)
      have w1064 : 0 ≤ Xi T17 904 142 ∧ Xi T17 904 142 ≤ 4 := hHT17.c _ _
      have w1065 : Xi T20 904 60 = Xi T17 904 60 := (show Xi T20 904 60 = Xi T17 904 60 from w1052.x _ _ rfl)
      have w1067 : Xi T20 904 69 = Xi T17 904 69 := (show Xi T20 904 69 = Xi T17 904 69 from w1052.x _ _ rfl)
      have w1069 : Xi T20 904 70 = Xi T17 904 70 := (show Xi T20 904 70 = Xi T17 904 70 from w1052.x _ _ rfl)
      have w1071 : Xi T20 904 71 = Xi T17 904 71 := (show Xi T20 904 71 = Xi T17 904 71 from w1052.x _ _ rfl)
      have w1073 : Xi T20 904 72 = Xi T17 904 72 := (show Xi T20 904 72 = Xi T17 904 72 from w1052.x _ _ rfl)
      have w1075 : Xi T20 904 73 = Xi T17 904 73 := (show Xi T20 904 73 = Xi T17 904 73 from w1052.x _ _ rfl)
      have w1077 : Xi T20 904 74 = Xi T17 904 74 := (show Xi T20 904 74 = Xi T17 904 74 from w1052.x _ _ rfl)
      have w1079 : Xi T20 904 78 = Xi T17 904 78 := (show Xi T20 904 78 = Xi T17 904 78 from w1052.x _ _ rfl)
      have w1081 : Xi T20 904 81 = Xi T17 904 81 := (show Xi T20 904 81 = Xi T17 904 81 from w1052.x _ _ rfl)
      have w1083 : Xi T20 904 94 = Xi T17 904 94 := (show Xi T20 904 94 = Xi T17 904 94 from w1052.x _ _ rfl)
      have w1085 : Xi T20 904 98 = Xi T17 904 98 := (show Xi T20 904 98 = Xi T17 904 98 from w1052.x _ _ rfl)
      exact Rl_weak (C224 T20 hHT20 hFT20  (by omega) (by omega) (by omega) (by omega) (by omega) (by omega) (by omega) (by omega) (by omega) (by omega) (by omega) (by omega) (by first | assumption | exact fun k hk => absurd hk (by omega) | exact (NWV_FR w1052 rfl (by assumption : NWV T17))) (by first | assumption | exact (RDT_FR hHT17 w1052 rfl rfl rfl (by assumption : RDT T17))) (by omega) (by omega) (by omega) (by first | exact fun q => Or.inl (by omega) | exact fun q => Or.inr (by omega) | exact fun q => absurd q (by omega))) (And.intro rfl (True.intro))
/-! SAFETY of methods: printed by wip/safe (vc.py, decl.py) -/
set_option maxRecDepth 100000 in
set_option maxHeartbeats 8000000 in
theorem c234_mo_asked {S : sS} (hH : HI S) (n : Nat) (dd : Nat) (first : Int) (hfirst : 0 ≤ first ∧ first ≤ 5001) (hT : TK S n) (hv : RNV S n) (hM : LXM S) (hB : ABV S) (hC : DCM S) (hK : TXK S n) (hX : TXM S) (hq : SNQ S n) (hap : AP9 S n) (h94 : Xi S 904 94 ≤ 1668) (hRD : RDT S) (hPF : PF S) (hdt : Xi S 904 70 = 20 → first ≤ dd ∧ dd < n ∧ Xi S 907 dd = 46) (d : Nat) : ∀  (T21 : sS) (_ : HI T21) (_ : FR md_mo_asked S T21), (Xi T21 904 117 = Xi S 904 117) → (Xi T21 904 69 = Xi S 904 69) → (Xi T21 904 70 = Xi S 904 70) → (Xi T21 904 71 = Xi S 904 71) → (Xi T21 904 72 = Xi S 904 72) → (Xi T21 904 73 = Xi S 904 73) → (Xi T21 904 74 = Xi S 904 74) → (Xi T21 904 78 = Xi S 904 78) → (Xi T21 904 81 = Xi S 904 81) → (Xi T21 904 94 = Xi S 904 94) → (Xi T21 904 98 = Xi S 904 98) → (Xi T21 904 60 = Xi S 904 60) → (Xi T21 904 106 = 0) → (Xi T21 904 108 = 0) → (Xi T21 904 115 = -1) → (Xi T21 904 116 = -1) → (SNQ T21 n) → (RDT T21) → (KQL T21 S (Xi S 904 117)) → (Xi S 904 70 = 9) → Rl lay0 (d + 12) m_mo_asked 234 [(0, .ref 904)] [] T21 (Q_mo_asked S n dd first) := by
  have hF : FR md_mo_asked S S := FR.rf
  have w1 : 0 ≤ Xi S 904 106 ∧ Xi S 904 106 ≤ 9 := hH.c _ _
  have w2 : 0 ≤ Xi S 904 108 ∧ Xi S 904 108 ≤ 2600 := hH.c _ _
  have w3 : -1 ≤ Xi S 904 115 ∧ Xi S 904 115 ≤ 15 := hH.c _ _
  have w4 : -1 ≤ Xi S 904 116 ∧ Xi S 904 116 ≤ 15 := hH.c _ _
  have w5 : 0 ≤ Xi S 904 117 ∧ Xi S 904 117 ≤ 480 := hH.c _ _
  have w6 : 0 ≤ Xi S 904 23 ∧ Xi S 904 23 ≤ 24 := hH.c _ _
  have w7 : 0 ≤ Xi S 904 41 ∧ Xi S 904 41 ≤ 6 := hH.c _ _
  have w8 : -1 ≤ Xi S 904 60 ∧ Xi S 904 60 ≤ 23 := hH.c _ _
  have w9 : 0 ≤ Xi S 904 69 ∧ Xi S 904 69 ≤ 2600 := hH.c _ _
  have w10 : 0 ≤ Xi S 904 70 ∧ Xi S 904 70 ≤ 20 := hH.c _ _
  have w11 : 0 ≤ Xi S 904 71 ∧ Xi S 904 71 ≤ 2600 := hH.c _ _
  have w12 : 0 ≤ Xi S 904 72 ∧ Xi S 904 72 ≤ 2600 := hH.c _ _
  have w13 : 0 ≤ Xi S 904 73 ∧ Xi S 904 73 ≤ 5 := hH.c _ _
  have w14 : 0 ≤ Xi S 904 74 ∧ Xi S 904 74 ≤ 2600 := hH.c _ _
  have w15 : -2 ≤ Xi S 904 78 ∧ Xi S 904 78 ≤ 5010 := hH.c _ _
  have w16 : 0 ≤ Xi S 904 81 ∧ Xi S 904 81 ≤ 5010 := hH.c _ _
  have w17 : 0 ≤ Xi S 904 94 ∧ Xi S 904 94 ≤ 1700 := hH.c _ _
  have w18 : 0 ≤ Xi S 904 98 ∧ Xi S 904 98 ≤ 1700 := hH.c _ _
  have w19 : 0 ≤ Xi S 951 0 ∧ Xi S 951 0 ≤ 5010 := hH.c _ _
  have w20 : 0 ≤ Xi S 951 1 ∧ Xi S 951 1 ≤ 5010 := hH.c _ _
  have hn5 := hT.1
  have hc69 : 0 ≤ Xi S 904 69 ∧ Xi S 904 69 ≤ 2600 := hH.c _ _
  have hc70 : 0 ≤ Xi S 904 70 ∧ Xi S 904 70 ≤ 20 := hH.c _ _
  have hc23 : 0 ≤ Xi S 904 23 ∧ Xi S 904 23 ≤ 24 := hH.c _ _
  have hrf : ∀ r : Int, 0 ≤ r → r < Xi S 904 69 → Xi S 950 r.toNat + Xi S 951 r.toNat ≤ n ∧ 1 ≤ Xi S 951 r.toNat := fun r a b => hv r.toNat (by omega)
  have hq0 : KQL S S (Xi S 904 117) := KQL.rf
  intro T21 hHT21 hFT21 w1087 w1088 w1089 w1090 w1091 w1092 w1093 w1094 w1095 w1096 w1097 w1098 w1099 w1100 w1101 w1102 q20 r20 K20 w1103
  have w1104 : Xi T21 904 102 = Xi S 904 102 := hFT21.x _ _ rfl
  have w1105 : Xi T21 904 103 = Xi S 904 103 := hFT21.x _ _ rfl
  have w1106 : Xi T21 904 16 = Xi S 904 16 := hFT21.x _ _ rfl
  have w1107 : Xi T21 904 18 = Xi S 904 18 := hFT21.x _ _ rfl
  have w1108 : Xi T21 904 19 = Xi S 904 19 := hFT21.x _ _ rfl
  have w1109 : Xi T21 904 23 = Xi S 904 23 := hFT21.x _ _ rfl
  have w1110 : Xi T21 904 30 = Xi S 904 30 := hFT21.x _ _ rfl
  have w1111 : Xi T21 904 41 = Xi S 904 41 := hFT21.x _ _ rfl
  have w1112 : Xi T21 904 47 = Xi S 904 47 := hFT21.x _ _ rfl
  have w1113 : Xi T21 904 49 = Xi S 904 49 := hFT21.x _ _ rfl
  have w1114 : Xi T21 904 55 = Xi S 904 55 := hFT21.x _ _ rfl
  have w1115 : Xi T21 904 60 = Xi S 904 60 := hFT21.x _ _ rfl
  have w1116 : Xi T21 904 69 = Xi S 904 69 := hFT21.x _ _ rfl
  have w1117 : Xi T21 904 70 = Xi S 904 70 := hFT21.x _ _ rfl
  have w1118 : Xi T21 904 71 = Xi S 904 71 := hFT21.x _ _ rfl
  have w1119 : Xi T21 904 72 = Xi S 904 72 := hFT21.x _ _ rfl
  have w1120 : Xi T21 904 73 = Xi S 904 73 := hFT21.x _ _ rfl
  have w1121 : Xi T21 904 74 = Xi S 904 74 := hFT21.x _ _ rfl
  have w1122 : Xi T21 904 78 = Xi S 904 78 := hFT21.x _ _ rfl
  have w1123 : Xi T21 904 81 = Xi S 904 81 := hFT21.x _ _ rfl
  have w1124 : Xi T21 904 94 = Xi S 904 94 := hFT21.x _ _ rfl
  have w1125 : Xi T21 904 98 = Xi S 904 98 := hFT21.x _ _ rfl
  have w1126 : Xi T21 951 0 = Xi S 951 0 := hFT21.x _ _ rfl
  have w1127 : Xi T21 951 1 = Xi S 951 1 := hFT21.x _ _ rfl
  have w1128 : 0 ≤ Xi T21 904 106 ∧ Xi T21 904 106 ≤ 9 := hHT21.c _ _
  have w1129 : 0 ≤ Xi T21 904 108 ∧ Xi T21 904 108 ≤ 2600 := hHT21.c _ _
  have w1130 : -1 ≤ Xi T21 904 115 ∧ Xi T21 904 115 ≤ 15 := hHT21.c _ _
  have w1131 : -1 ≤ Xi T21 904 116 ∧ Xi T21 904 116 ≤ 15 := hHT21.c _ _
  have w1132 : 0 ≤ Xi T21 904 117 ∧ Xi T21 904 117 ≤ 480 := hHT21.c _ _
  have w1133 : -1 ≤ Xi T21 904 60 ∧ Xi T21 904 60 ≤ 23 := hHT21.c _ _
  have w1134 : 0 ≤ Xi T21 904 69 ∧ Xi T21 904 69 ≤ 2600 := hHT21.c _ _
  have w1135 : 0 ≤ Xi T21 904 70 ∧ Xi T21 904 70 ≤ 20 := hHT21.c _ _
  have w1136 : 0 ≤ Xi T21 904 71 ∧ Xi T21 904 71 ≤ 2600 := hHT21.c _ _
  have w1137 : 0 ≤ Xi T21 904 72 ∧ Xi T21 904 72 ≤ 2600 := hHT21.c _ _
  have w1138 : 0 ≤ Xi T21 904 73 ∧ Xi T21 904 73 ≤ 5 := hHT21.c _ _
  have w1139 : 0 ≤ Xi T21 904 74 ∧ Xi T21 904 74 ≤ 2600 := hHT21.c _ _
  have w1140 : -2 ≤ Xi T21 904 78 ∧ Xi T21 904 78 ≤ 5010 := hHT21.c _ _
  have w1141 : 0 ≤ Xi T21 904 81 ∧ Xi T21 904 81 ≤ 5010 := hHT21.c _ _
  have w1142 : 0 ≤ Xi T21 904 94 ∧ Xi T21 904 94 ≤ 1700 := hHT21.c _ _
  have w1143 : 0 ≤ Xi T21 904 98 ∧ Xi T21 904 98 ≤ 1700 := hHT21.c _ _
  refine l_aload_n rfl rfl ?_
  have s234 := q20.2.2.1 (by omega)
  have x234 := q20.2.2.2.2.1 (by omega)
  have w1149 : 0 ≤ Xi T21 904 142 ∧ Xi T21 904 142 ≤ 4 := hHT21.c _ _
  refine l_callV rfl rfl rfl (t_mo_askProperty hHT21 n (by first | assumption | exact (TK_FR hFT21 rfl (by assumption : TK S _))) (by first | assumption | exact (RNV_FR hFT21 rfl (by assumption : RNV S _))) (by first | assumption | exact (LXM_FR hFT21 rfl (by assumption : LXM S))) (by first | assumption | exact (ABV_FR hFT21 rfl (by assumption : ABV S))) (by first | assumption | exact (TXM_FR hFT21 rfl (by assumption : TXM S))) (by first | assumption | exact (TXK_FR hFT21 rfl (by assumption : TXK S _))) (by first | assumption | omega) (by first | assumption | omega) (by have t := x234.2.2; exact t) _) ?_
  rintro _ T22 ⟨hHT22, w1162, rfl, f235, kq235⟩
  have hFT22 : FR md_mo_asked S T22 := FR.tr hFT21 w1162 rfl
  show Rl _ _ _ _ _ [] _ _
  have R235 : RDT T22 := rdt_keep (by assumption : RDT T21) hHT21 (GR_FR (by assumption : FR md_mo_askProperty T21 T22) rfl GR.rf) ((by assumption : FR md_mo_askProperty T21 T22).x 904 117 rfl) ((by assumption : FR md_mo_askProperty T21 T22).x 904 125 rfl) ((by assumption : FR md_mo_askProperty T21 T22).x 904 130 rfl) ((by assumption : FR md_mo_askProperty T21 T22).x 904 23 rfl) (smk_r8 (by assumption : FR md_mo_askProperty T21 T22) rfl) (KQL.q KQL.rf kq235 (Int.le_refl _)) (KHL_FR (by assumption : FR md_mo_askProperty T21 T22) rfl KHL.rf)
  have y235_69 : Xi T22 904 69 = Xi T21 904 69 := ((show Xi T22 904 69 = Xi T21 904 69 from w1162.x _ _ rfl))
  have y235_70 : Xi T22 904 70 = Xi T21 904 70 := ((show Xi T22 904 70 = Xi T21 904 70 from w1162.x _ _ rfl))
  have y235_71 : Xi T22 904 71 = Xi T21 904 71 := ((show Xi T22 904 71 = Xi T21 904 71 from w1162.x _ _ rfl))
  have y235_72 : Xi T22 904 72 = Xi T21 904 72 := ((show Xi T22 904 72 = Xi T21 904 72 from w1162.x _ _ rfl))
  have y235_73 : Xi T22 904 73 = Xi T21 904 73 := ((show Xi T22 904 73 = Xi T21 904 73 from w1162.x _ _ rfl))
  have y235_74 : Xi T22 904 74 = Xi T21 904 74 := ((show Xi T22 904 74 = Xi T21 904 74 from w1162.x _ _ rfl))
  have y235_78 : Xi T22 904 78 = Xi T21 904 78 := ((show Xi T22 904 78 = Xi T21 904 78 from w1162.x _ _ rfl))
  have y235_81 : Xi T22 904 81 = Xi T21 904 81 := ((show Xi T22 904 81 = Xi T21 904 81 from w1162.x _ _ rfl))
  have y235_94 : Xi T22 904 94 = Xi T21 904 94 := ((show Xi T22 904 94 = Xi T21 904 94 from w1162.x _ _ rfl))
  have y235_98 : Xi T22 904 98 = Xi T21 904 98 := ((show Xi T22 904 98 = Xi T21 904 98 from w1162.x _ _ rfl))
  have y235_60 : Xi T22 904 60 = Xi T21 904 60 := ((show Xi T22 904 60 = Xi T21 904 60 from w1162.x _ _ rfl))
  have y235_117 : Xi T22 904 117 = Xi T21 904 117 := ((show Xi T22 904 117 = Xi T21 904 117 from w1162.x _ _ rfl))
  have y235 : Xi T22 904 117 = Xi S 904 117 ∧ Xi T21 904 117 = Xi S 904 117 := ⟨by omega, by omega⟩
  have F235 : Xi T22 904 106 = 0 → DOK T22 := fun q => dok_9 (by omega) (by have t := f235 q; rw [rnR_FR hFT21 rfl rfl, rnR_FR hFT21 rfl rfl, rnR_FR hFT21 rfl rfl, y235.2] at t; unfold D9; rw [rnR_FR hFT22 rfl rfl, rnR_FR hFT22 rfl rfl, rnR_FR hFT22 rfl rfl, y235.1]; exact t)
  refine l_goto rfl rfl ?_
  refine l_return rfl rfl ?_
  have w1163 : 0 ≤ Xi T22 904 106 ∧ Xi T22 904 106 ≤ 9 := hHT22.c _ _
  exact ⟨hHT22, hFT22, rfl, (by assumption), (by first | exact fun q => by assumption | assumption | exact fun q => (by assumption : RDT T22))⟩
set_option maxRecDepth 100000 in
set_option maxHeartbeats 8000000 in
theorem c241_mo_asked {S : sS} (hH : HI S) (n : Nat) (dd : Nat) (first : Int) (hfirst : 0 ≤ first ∧ first ≤ 5001) (hT : TK S n) (hv : RNV S n) (hM : LXM S) (hB : ABV S) (hC : DCM S) (hK : TXK S n) (hX : TXM S) (hq : SNQ S n) (hap : AP9 S n) (h94 : Xi S 904 94 ≤ 1668) (hRD : RDT S) (hPF : PF S) (hdt : Xi S 904 70 = 20 → first ≤ dd ∧ dd < n ∧ Xi S 907 dd = 46) (d : Nat) : ∀  (T23 : sS) (_ : HI T23) (_ : FR md_mo_asked S T23), (Xi T23 904 117 = Xi S 904 117) → (Xi T23 904 69 = Xi S 904 69) → (Xi T23 904 70 = Xi S 904 70) → (Xi T23 904 71 = Xi S 904 71) → (Xi T23 904 72 = Xi S 904 72) → (Xi T23 904 73 = Xi S 904 73) → (Xi T23 904 74 = Xi S 904 74) → (Xi T23 904 78 = Xi S 904 78) → (Xi T23 904 81 = Xi S 904 81) → (Xi T23 904 94 = Xi S 904 94) → (Xi T23 904 98 = Xi S 904 98) → (Xi T23 904 60 = Xi S 904 60) → (Xi T23 904 106 = 0) → (Xi T23 904 108 = 0) → (Xi T23 904 115 = -1) → (Xi T23 904 116 = -1) → (SNQ T23 n) → (RDT T23) → (KQL T23 S (Xi S 904 117)) → (10 ≤ Xi S 904 70 ∧ Xi S 904 70 ≤ 11) → Rl lay0 (d + 12) m_mo_asked 241 [(0, .ref 904)] [] T23 (Q_mo_asked S n dd first) := by
  have hF : FR md_mo_asked S S := FR.rf
  have w1 : 0 ≤ Xi S 904 106 ∧ Xi S 904 106 ≤ 9 := hH.c _ _
  have w2 : 0 ≤ Xi S 904 108 ∧ Xi S 904 108 ≤ 2600 := hH.c _ _
  have w3 : -1 ≤ Xi S 904 115 ∧ Xi S 904 115 ≤ 15 := hH.c _ _
  have w4 : -1 ≤ Xi S 904 116 ∧ Xi S 904 116 ≤ 15 := hH.c _ _
  have w5 : 0 ≤ Xi S 904 117 ∧ Xi S 904 117 ≤ 480 := hH.c _ _
  have w6 : 0 ≤ Xi S 904 23 ∧ Xi S 904 23 ≤ 24 := hH.c _ _
  have w7 : 0 ≤ Xi S 904 41 ∧ Xi S 904 41 ≤ 6 := hH.c _ _
  have w8 : -1 ≤ Xi S 904 60 ∧ Xi S 904 60 ≤ 23 := hH.c _ _
  have w9 : 0 ≤ Xi S 904 69 ∧ Xi S 904 69 ≤ 2600 := hH.c _ _
  have w10 : 0 ≤ Xi S 904 70 ∧ Xi S 904 70 ≤ 20 := hH.c _ _
  have w11 : 0 ≤ Xi S 904 71 ∧ Xi S 904 71 ≤ 2600 := hH.c _ _
  have w12 : 0 ≤ Xi S 904 72 ∧ Xi S 904 72 ≤ 2600 := hH.c _ _
  have w13 : 0 ≤ Xi S 904 73 ∧ Xi S 904 73 ≤ 5 := hH.c _ _
  have w14 : 0 ≤ Xi S 904 74 ∧ Xi S 904 74 ≤ 2600 := hH.c _ _
  have w15 : -2 ≤ Xi S 904 78 ∧ Xi S 904 78 ≤ 5010 := hH.c _ _
  have w16 : 0 ≤ Xi S 904 81 ∧ Xi S 904 81 ≤ 5010 := hH.c _ _
  have w17 : 0 ≤ Xi S 904 94 ∧ Xi S 904 94 ≤ 1700 := hH.c _ _
  have w18 : 0 ≤ Xi S 904 98 ∧ Xi S 904 98 ≤ 1700 := hH.c _ _
  have w19 : 0 ≤ Xi S 951 0 ∧ Xi S 951 0 ≤ 5010 := hH.c _ _
  have w20 : 0 ≤ Xi S 951 1 ∧ Xi S 951 1 ≤ 5010 := hH.c _ _
  have hn5 := hT.1
  have hc69 : 0 ≤ Xi S 904 69 ∧ Xi S 904 69 ≤ 2600 := hH.c _ _
  have hc70 : 0 ≤ Xi S 904 70 ∧ Xi S 904 70 ≤ 20 := hH.c _ _
  have hc23 : 0 ≤ Xi S 904 23 ∧ Xi S 904 23 ≤ 24 := hH.c _ _
  have hrf : ∀ r : Int, 0 ≤ r → r < Xi S 904 69 → Xi S 950 r.toNat + Xi S 951 r.toNat ≤ n ∧ 1 ≤ Xi S 951 r.toNat := fun r a b => hv r.toNat (by omega)
  have hq0 : KQL S S (Xi S 904 117) := KQL.rf
  intro T23 hHT23 hFT23 w1197 w1198 w1199 w1200 w1201 w1202 w1203 w1204 w1205 w1206 w1207 w1208 w1209 w1210 w1211 w1212 q20 r20 K20 w1213
  have w1214 : Xi T23 904 102 = Xi S 904 102 := hFT23.x _ _ rfl
  have w1215 : Xi T23 904 103 = Xi S 904 103 := hFT23.x _ _ rfl
  have w1216 : Xi T23 904 16 = Xi S 904 16 := hFT23.x _ _ rfl
  have w1217 : Xi T23 904 18 = Xi S 904 18 := hFT23.x _ _ rfl
  have w1218 : Xi T23 904 19 = Xi S 904 19 := hFT23.x _ _ rfl
  have w1219 : Xi T23 904 23 = Xi S 904 23 := hFT23.x _ _ rfl
  have w1220 : Xi T23 904 30 = Xi S 904 30 := hFT23.x _ _ rfl
  have w1221 : Xi T23 904 41 = Xi S 904 41 := hFT23.x _ _ rfl
  have w1222 : Xi T23 904 47 = Xi S 904 47 := hFT23.x _ _ rfl
  have w1223 : Xi T23 904 49 = Xi S 904 49 := hFT23.x _ _ rfl
  have w1224 : Xi T23 904 55 = Xi S 904 55 := hFT23.x _ _ rfl
  have w1225 : Xi T23 904 60 = Xi S 904 60 := hFT23.x _ _ rfl
  have w1226 : Xi T23 904 69 = Xi S 904 69 := hFT23.x _ _ rfl
  have w1227 : Xi T23 904 70 = Xi S 904 70 := hFT23.x _ _ rfl
  have w1228 : Xi T23 904 71 = Xi S 904 71 := hFT23.x _ _ rfl
  have w1229 : Xi T23 904 72 = Xi S 904 72 := hFT23.x _ _ rfl
  have w1230 : Xi T23 904 73 = Xi S 904 73 := hFT23.x _ _ rfl
  have w1231 : Xi T23 904 74 = Xi S 904 74 := hFT23.x _ _ rfl
  have w1232 : Xi T23 904 78 = Xi S 904 78 := hFT23.x _ _ rfl
  have w1233 : Xi T23 904 81 = Xi S 904 81 := hFT23.x _ _ rfl
  have w1234 : Xi T23 904 94 = Xi S 904 94 := hFT23.x _ _ rfl
  have w1235 : Xi T23 904 98 = Xi S 904 98 := hFT23.x _ _ rfl
  have w1236 : Xi T23 951 0 = Xi S 951 0 := hFT23.x _ _ rfl
  have w1237 : Xi T23 951 1 = Xi S 951 1 := hFT23.x _ _ rfl
  have w1238 : 0 ≤ Xi T23 904 106 ∧ Xi T23 904 106 ≤ 9 := hHT23.c _ _
  have w1239 : 0 ≤ Xi T23 904 108 ∧ Xi T23 904 108 ≤ 2600 := hHT23.c _ _
  have w1240 : -1 ≤ Xi T23 904 115 ∧ Xi T23 904 115 ≤ 15 := hHT23.c _ _
  have w1241 : -1 ≤ Xi T23 904 116 ∧ Xi T23 904 116 ≤ 15 := hHT23.c _ _
  have w1242 : 0 ≤ Xi T23 904 117 ∧ Xi T23 904 117 ≤ 480 := hHT23.c _ _
  have w1243 : -1 ≤ Xi T23 904 60 ∧ Xi T23 904 60 ≤ 23 := hHT23.c _ _
  have w1244 : 0 ≤ Xi T23 904 69 ∧ Xi T23 904 69 ≤ 2600 := hHT23.c _ _
  have w1245 : 0 ≤ Xi T23 904 70 ∧ Xi T23 904 70 ≤ 20 := hHT23.c _ _
  have w1246 : 0 ≤ Xi T23 904 71 ∧ Xi T23 904 71 ≤ 2600 := hHT23.c _ _
  have w1247 : 0 ≤ Xi T23 904 72 ∧ Xi T23 904 72 ≤ 2600 := hHT23.c _ _
  have w1248 : 0 ≤ Xi T23 904 73 ∧ Xi T23 904 73 ≤ 5 := hHT23.c _ _
  have w1249 : 0 ≤ Xi T23 904 74 ∧ Xi T23 904 74 ≤ 2600 := hHT23.c _ _
  have w1250 : -2 ≤ Xi T23 904 78 ∧ Xi T23 904 78 ≤ 5010 := hHT23.c _ _
  have w1251 : 0 ≤ Xi T23 904 81 ∧ Xi T23 904 81 ≤ 5010 := hHT23.c _ _
  have w1252 : 0 ≤ Xi T23 904 94 ∧ Xi T23 904 94 ≤ 1700 := hHT23.c _ _
  have w1253 : 0 ≤ Xi T23 904 98 ∧ Xi T23 904 98 ≤ 1700 := hHT23.c _ _
  refine l_aload_n rfl rfl ?_
  have s241 := q20.2.2.2.2.2.1 (by omega)
  have x241 := q20.2.2.2.2.2.2.1 (by omega)
  have w1259 : 0 ≤ Xi T23 904 142 ∧ Xi T23 904 142 ≤ 4 := hHT23.c _ _
  have w1260 : 0 ≤ Xi T23 904 16 ∧ Xi T23 904 16 ≤ 16 := hHT23.c _ _
  have w1261 : 0 ≤ Xi T23 904 18 ∧ Xi T23 904 18 ≤ 8 := hHT23.c _ _
  have w1262 : 0 ≤ Xi T23 904 49 ∧ Xi T23 904 49 ≤ 12 := hHT23.c _ _
  refine l_callV rfl rfl rfl (t_mo_askKinds hHT23 n (by first | assumption | exact (TK_FR hFT23 rfl (by assumption : TK S _))) (by first | assumption | exact (RNV_FR hFT23 rfl (by assumption : RNV S _))) (by first | assumption | exact (LXM_FR hFT23 rfl (by assumption : LXM S))) (by first | assumption | exact fun k hk => absurd hk (by omega) | exact (by assumption : NWV T23)) (by first | assumption | omega) (by first | assumption | omega) (by first | assumption | omega) (by first | assumption | omega) (fun e => by have t := hap.2.2.2.1 (by omega); omega) _) ?_
  rintro _ T24 ⟨hHT24, w1275, rfl, f242, h242, g242⟩
  have hFT24 : FR md_mo_asked S T24 := FR.tr hFT23 w1275 rfl
  show Rl _ _ _ _ _ [] _ _
  have y242_69 : Xi T24 904 69 = Xi T23 904 69 := ((show Xi T24 904 69 = Xi T23 904 69 from w1275.x _ _ rfl))
  have y242_70 : Xi T24 904 70 = Xi T23 904 70 := ((show Xi T24 904 70 = Xi T23 904 70 from w1275.x _ _ rfl))
  have y242_71 : Xi T24 904 71 = Xi T23 904 71 := ((show Xi T24 904 71 = Xi T23 904 71 from w1275.x _ _ rfl))
  have y242_72 : Xi T24 904 72 = Xi T23 904 72 := ((show Xi T24 904 72 = Xi T23 904 72 from w1275.x _ _ rfl))
  have y242_73 : Xi T24 904 73 = Xi T23 904 73 := ((show Xi T24 904 73 = Xi T23 904 73 from w1275.x _ _ rfl))
  have y242_74 : Xi T24 904 74 = Xi T23 904 74 := ((show Xi T24 904 74 = Xi T23 904 74 from w1275.x _ _ rfl))
  have y242_78 : Xi T24 904 78 = Xi T23 904 78 := ((show Xi T24 904 78 = Xi T23 904 78 from w1275.x _ _ rfl))
  have y242_81 : Xi T24 904 81 = Xi T23 904 81 := ((show Xi T24 904 81 = Xi T23 904 81 from w1275.x _ _ rfl))
  have y242_94 : Xi T24 904 94 = Xi T23 904 94 := ((show Xi T24 904 94 = Xi T23 904 94 from w1275.x _ _ rfl))
  have y242_98 : Xi T24 904 98 = Xi T23 904 98 := ((show Xi T24 904 98 = Xi T23 904 98 from w1275.x _ _ rfl))
  have y242_60 : Xi T24 904 60 = Xi T23 904 60 := ((show Xi T24 904 60 = Xi T23 904 60 from w1275.x _ _ rfl))
  have y242_117 : Xi T24 904 117 = Xi T23 904 117 := ((show Xi T24 904 117 = Xi T23 904 117 from w1275.x _ _ rfl))
  have u242_16 : Xi T24 904 16 = Xi S 904 16 := hFT24.x 904 16 rfl
  have u242_18 : Xi T24 904 18 = Xi S 904 18 := hFT24.x 904 18 rfl
  have u242_49 : Xi T24 904 49 = Xi S 904 49 := hFT24.x 904 49 rfl
  have F242 : Xi T24 904 106 = 0 → DOK T24 := fun q => (by have a := f242 q; have b := h242 q; have c := g242 q; rw [hFT23.x 904 16 rfl, hFT23.x 904 18 rfl, hFT23.x 904 49 rfl] at a; rw [rnR_FR hFT23 rfl rfl] at b; simp only [(hFT23.cx 951 rfl _).1] at c; rcases (by omega : Xi T24 904 70 = 10 ∨ Xi T24 904 70 = 11) with e | e; exact dok_10 e ⟨fun y => by have t := a.2.1 (by omega) (by omega); omega, fun y => by have t := a.2.2 (by omega) (by omega); omega, fun y => by rw [rnR_FR hFT24 rfl rfl, show Xi T24 904 78 = Xi T23 904 78 by omega]; exact b (by omega), fun i x y => by rw [(hFT24.cx 951 rfl _).1, show Xi T24 904 71 = Xi T23 904 71 by omega]; exact c i x (by omega)⟩; exact dok_11 e ⟨by have t := a.1 (by omega); omega, fun y => by rw [rnR_FR hFT24 rfl rfl, show Xi T24 904 78 = Xi T23 904 78 by omega]; exact b (by omega), fun i x y => by rw [(hFT24.cx 951 rfl _).1, show Xi T24 904 71 = Xi T23 904 71 by omega]; exact c i x (by omega)⟩)
  refine l_goto rfl rfl ?_
  refine l_return rfl rfl ?_
  have w1276 : 0 ≤ Xi T24 904 106 ∧ Xi T24 904 106 ≤ 9 := hHT24.c _ _
  exact ⟨hHT24, hFT24, rfl, (by assumption), (by first | exact fun q => by assumption | assumption | exact fun q => (RDT_FR hHT23 w1275 rfl rfl rfl (by assumption : RDT T23)))⟩
set_option maxRecDepth 100000 in
set_option maxHeartbeats 8000000 in
theorem c248_mo_asked {S : sS} (hH : HI S) (n : Nat) (dd : Nat) (first : Int) (hfirst : 0 ≤ first ∧ first ≤ 5001) (hT : TK S n) (hv : RNV S n) (hM : LXM S) (hB : ABV S) (hC : DCM S) (hK : TXK S n) (hX : TXM S) (hq : SNQ S n) (hap : AP9 S n) (h94 : Xi S 904 94 ≤ 1668) (hRD : RDT S) (hPF : PF S) (hdt : Xi S 904 70 = 20 → first ≤ dd ∧ dd < n ∧ Xi S 907 dd = 46) (d : Nat) : ∀  (T25 : sS) (_ : HI T25) (_ : FR md_mo_asked S T25), (Xi T25 904 117 = Xi S 904 117) → (Xi T25 904 69 = Xi S 904 69) → (Xi T25 904 70 = Xi S 904 70) → (Xi T25 904 71 = Xi S 904 71) → (Xi T25 904 72 = Xi S 904 72) → (Xi T25 904 73 = Xi S 904 73) → (Xi T25 904 74 = Xi S 904 74) → (Xi T25 904 78 = Xi S 904 78) → (Xi T25 904 81 = Xi S 904 81) → (Xi T25 904 94 = Xi S 904 94) → (Xi T25 904 98 = Xi S 904 98) → (Xi T25 904 60 = Xi S 904 60) → (Xi T25 904 106 = 0) → (Xi T25 904 108 = 0) → (Xi T25 904 115 = -1) → (Xi T25 904 116 = -1) → (SNQ T25 n) → (RDT T25) → (KQL T25 S (Xi S 904 117)) → (Xi S 904 70 = 12) → Rl lay0 (d + 12) m_mo_asked 248 [(0, .ref 904)] [] T25 (Q_mo_asked S n dd first) := by
  have hF : FR md_mo_asked S S := FR.rf
  have w1 : 0 ≤ Xi S 904 106 ∧ Xi S 904 106 ≤ 9 := hH.c _ _
  have w2 : 0 ≤ Xi S 904 108 ∧ Xi S 904 108 ≤ 2600 := hH.c _ _
  have w3 : -1 ≤ Xi S 904 115 ∧ Xi S 904 115 ≤ 15 := hH.c _ _
  have w4 : -1 ≤ Xi S 904 116 ∧ Xi S 904 116 ≤ 15 := hH.c _ _
  have w5 : 0 ≤ Xi S 904 117 ∧ Xi S 904 117 ≤ 480 := hH.c _ _
  have w6 : 0 ≤ Xi S 904 23 ∧ Xi S 904 23 ≤ 24 := hH.c _ _
  have w7 : 0 ≤ Xi S 904 41 ∧ Xi S 904 41 ≤ 6 := hH.c _ _
  have w8 : -1 ≤ Xi S 904 60 ∧ Xi S 904 60 ≤ 23 := hH.c _ _
  have w9 : 0 ≤ Xi S 904 69 ∧ Xi S 904 69 ≤ 2600 := hH.c _ _
  have w10 : 0 ≤ Xi S 904 70 ∧ Xi S 904 70 ≤ 20 := hH.c _ _
  have w11 : 0 ≤ Xi S 904 71 ∧ Xi S 904 71 ≤ 2600 := hH.c _ _
  have w12 : 0 ≤ Xi S 904 72 ∧ Xi S 904 72 ≤ 2600 := hH.c _ _
  have w13 : 0 ≤ Xi S 904 73 ∧ Xi S 904 73 ≤ 5 := hH.c _ _
  have w14 : 0 ≤ Xi S 904 74 ∧ Xi S 904 74 ≤ 2600 := hH.c _ _
  have w15 : -2 ≤ Xi S 904 78 ∧ Xi S 904 78 ≤ 5010 := hH.c _ _
  have w16 : 0 ≤ Xi S 904 81 ∧ Xi S 904 81 ≤ 5010 := hH.c _ _
  have w17 : 0 ≤ Xi S 904 94 ∧ Xi S 904 94 ≤ 1700 := hH.c _ _
  have w18 : 0 ≤ Xi S 904 98 ∧ Xi S 904 98 ≤ 1700 := hH.c _ _
  have w19 : 0 ≤ Xi S 951 0 ∧ Xi S 951 0 ≤ 5010 := hH.c _ _
  have w20 : 0 ≤ Xi S 951 1 ∧ Xi S 951 1 ≤ 5010 := hH.c _ _
  have hn5 := hT.1
  have hc69 : 0 ≤ Xi S 904 69 ∧ Xi S 904 69 ≤ 2600 := hH.c _ _
  have hc70 : 0 ≤ Xi S 904 70 ∧ Xi S 904 70 ≤ 20 := hH.c _ _
  have hc23 : 0 ≤ Xi S 904 23 ∧ Xi S 904 23 ≤ 24 := hH.c _ _
  have hrf : ∀ r : Int, 0 ≤ r → r < Xi S 904 69 → Xi S 950 r.toNat + Xi S 951 r.toNat ≤ n ∧ 1 ≤ Xi S 951 r.toNat := fun r a b => hv r.toNat (by omega)
  have hq0 : KQL S S (Xi S 904 117) := KQL.rf
  intro T25 hHT25 hFT25 w1309 w1310 w1311 w1312 w1313 w1314 w1315 w1316 w1317 w1318 w1319 w1320 w1321 w1322 w1323 w1324 q20 r20 K20 w1325
  have w1326 : Xi T25 904 102 = Xi S 904 102 := hFT25.x _ _ rfl
  have w1327 : Xi T25 904 103 = Xi S 904 103 := hFT25.x _ _ rfl
  have w1328 : Xi T25 904 16 = Xi S 904 16 := hFT25.x _ _ rfl
  have w1329 : Xi T25 904 18 = Xi S 904 18 := hFT25.x _ _ rfl
  have w1330 : Xi T25 904 19 = Xi S 904 19 := hFT25.x _ _ rfl
  have w1331 : Xi T25 904 23 = Xi S 904 23 := hFT25.x _ _ rfl
  have w1332 : Xi T25 904 30 = Xi S 904 30 := hFT25.x _ _ rfl
  have w1333 : Xi T25 904 41 = Xi S 904 41 := hFT25.x _ _ rfl
  have w1334 : Xi T25 904 47 = Xi S 904 47 := hFT25.x _ _ rfl
  have w1335 : Xi T25 904 49 = Xi S 904 49 := hFT25.x _ _ rfl
  have w1336 : Xi T25 904 55 = Xi S 904 55 := hFT25.x _ _ rfl
  have w1337 : Xi T25 904 60 = Xi S 904 60 := hFT25.x _ _ rfl
  have w1338 : Xi T25 904 69 = Xi S 904 69 := hFT25.x _ _ rfl
  have w1339 : Xi T25 904 70 = Xi S 904 70 := hFT25.x _ _ rfl
  have w1340 : Xi T25 904 71 = Xi S 904 71 := hFT25.x _ _ rfl
  have w1341 : Xi T25 904 72 = Xi S 904 72 := hFT25.x _ _ rfl
  have w1342 : Xi T25 904 73 = Xi S 904 73 := hFT25.x _ _ rfl
  have w1343 : Xi T25 904 74 = Xi S 904 74 := hFT25.x _ _ rfl
  have w1344 : Xi T25 904 78 = Xi S 904 78 := hFT25.x _ _ rfl
  have w1345 : Xi T25 904 81 = Xi S 904 81 := hFT25.x _ _ rfl
  have w1346 : Xi T25 904 94 = Xi S 904 94 := hFT25.x _ _ rfl
  have w1347 : Xi T25 904 98 = Xi S 904 98 := hFT25.x _ _ rfl
  have w1348 : Xi T25 951 0 = Xi S 951 0 := hFT25.x _ _ rfl
  have w1349 : Xi T25 951 1 = Xi S 951 1 := hFT25.x _ _ rfl
  have w1350 : 0 ≤ Xi T25 904 106 ∧ Xi T25 904 106 ≤ 9 := hHT25.c _ _
  have w1351 : 0 ≤ Xi T25 904 108 ∧ Xi T25 904 108 ≤ 2600 := hHT25.c _ _
  have w1352 : -1 ≤ Xi T25 904 115 ∧ Xi T25 904 115 ≤ 15 := hHT25.c _ _
  have w1353 : -1 ≤ Xi T25 904 116 ∧ Xi T25 904 116 ≤ 15 := hHT25.c _ _
  have w1354 : 0 ≤ Xi T25 904 117 ∧ Xi T25 904 117 ≤ 480 := hHT25.c _ _
  have w1355 : -1 ≤ Xi T25 904 60 ∧ Xi T25 904 60 ≤ 23 := hHT25.c _ _
  have w1356 : 0 ≤ Xi T25 904 69 ∧ Xi T25 904 69 ≤ 2600 := hHT25.c _ _
  have w1357 : 0 ≤ Xi T25 904 70 ∧ Xi T25 904 70 ≤ 20 := hHT25.c _ _
  have w1358 : 0 ≤ Xi T25 904 71 ∧ Xi T25 904 71 ≤ 2600 := hHT25.c _ _
  have w1359 : 0 ≤ Xi T25 904 72 ∧ Xi T25 904 72 ≤ 2600 := hHT25.c _ _
  have w1360 : 0 ≤ Xi T25 904 73 ∧ Xi T25 904 73 ≤ 5 := hHT25.c _ _
  have w1361 : 0 ≤ Xi T25 904 74 ∧ Xi T25 904 74 ≤ 2600 := hHT25.c _ _
  have w1362 : -2 ≤ Xi T25 904 78 ∧ Xi T25 904 78 ≤ 5010 := hHT25.c _ _
  have w1363 : 0 ≤ Xi T25 904 81 ∧ Xi T25 904 81 ≤ 5010 := hHT25.c _ _
  have w1364 : 0 ≤ Xi T25 904 94 ∧ Xi T25 904 94 ≤ 1700 := hHT25.c _ _
  have w1365 : 0 ≤ Xi T25 904 98 ∧ Xi T25 904 98 ≤ 1700 := hHT25.c _ _
  refine l_aload_n rfl rfl ?_
  have s248 := q20.2.2.2.2.2.1 (by omega)
  have x248 := q20.2.2.2.2.2.2.1 (by omega)
  have y248 := q20.2.2.2.2.2.2.2.1 (by omega)
  have z248 : Xi T25 904 73 ≠ 0 → Xi T25 904 74 < Xi T25 904 69 := fun h => q20.2.2.2.2.2.2.2.2.1 (by omega)
  have g248 := hrf (Xi S 904 78) (by omega) (by omega)
  have w1371 : 0 ≤ Xi T25 904 142 ∧ Xi T25 904 142 ≤ 4 := hHT25.c _ _
  refine l_callV rfl rfl rfl (t_mo_objectsOrNew hHT25 n (by first | assumption | exact (TK_FR hFT25 rfl (by assumption : TK S _))) (by first | assumption | exact (RNV_FR hFT25 rfl (by assumption : RNV S _))) (by first | assumption | exact (LXM_FR hFT25 rfl (by assumption : LXM S))) (by first | assumption | exact fun k hk => absurd hk (by omega) | exact (by assumption : NWV T25)) (by first | assumption | omega) (by first | assumption | omega) _) ?_
  rintro _ T26 ⟨hHT26, w1387, rfl, w1383, f249, w1384, w1385⟩
  have hFT26 : FR md_mo_asked S T26 := FR.tr hFT25 w1387 rfl
  show Rl _ _ _ _ _ [] _ _
  have O249 : Xi T26 904 106 = 0 → ONA S := fun q => ona_bk hFT25 rfl (f249 q)
  clear f249
  refine l_aload_n rfl rfl ?_
  refine l_iconst rfl ?_
  refine l_pfi rfl rfl rfl rfl ?_
  obtain ⟨U27, eU27⟩ : ∃ T : sS, T = uI T26 904 109 (Int32.ofInt 0) := ⟨_, rfl⟩
  rw [← eU27]
  have hHU27 : HI U27 := by rw [eU27]; exact HI_any hHT26 (rfl)
  have hFU27 : FR md_mo_asked S U27 := by rw [eU27]; exact FR.wI hFT26 (mdf_i (r := (904, 905, 109, 110)) (List.mem_of_getElem? (i := 5) rfl) (inR_i (by omega) (by omega) (by omega) (by omega)))
  have w1388 : Xi U27 904 109 = 0 := by rw [eU27]; exact Xi_same (by unfold rg; omega)
  refine l_aload_n rfl rfl ?_
  refine l_aload_n rfl rfl ?_
  refine l_gfr rfl rfl rfl rfl rfl (hHU27.r 904 67 950 rfl) ?_
  refine l_aload_n rfl rfl ?_
  refine l_gfi rfl rfl rfl rfl rfl ?_
  have w1389 : (Xi U27 904 78) = (Xi T25 904 78) := (show Xi U27 904 78 = Xi T26 904 78 from by rw [eU27]; exact Xi_ne (by omega)).trans ((show Xi T26 904 78 = Xi T25 904 78 from w1387.x _ _ rfl))
  rw [w1389]
  refine l_iaload (n := 2600) rfl rfl (by omega) (by omega) (by unfold rg; omega) ?_
  have w1390 : 0 ≤ (Xi U27 950 (((Xi T25 904 78)).toNat)) ∧ (Xi U27 950 (((Xi T25 904 78)).toNat)) ≤ 5010 := hHU27.c _ _
  have e266 : (Xi U27 950 (((Xi T25 904 78)).toNat)) = Xi S 950 (Xi S 904 78).toNat := by first | rfl | exact (hFU27.cx 950 rfl _).1 | (rw [(hFU27.cx 950 rfl _).1]; exact congrArg (fun t : Int => Xi S 950 t.toNat) (by omega))
  refine l_aload_n rfl rfl ?_
  refine l_gfr rfl rfl rfl rfl rfl (hHU27.r 904 68 951 rfl) ?_
  refine l_aload_n rfl rfl ?_
  refine l_gfi rfl rfl rfl rfl rfl ?_
  have w1391 : (Xi U27 904 78) = (Xi T25 904 78) := (show Xi U27 904 78 = Xi T26 904 78 from by rw [eU27]; exact Xi_ne (by omega)).trans ((show Xi T26 904 78 = Xi T25 904 78 from w1387.x _ _ rfl))
  rw [w1391]
  refine l_iaload (n := 2600) rfl rfl (by omega) (by omega) (by unfold rg; omega) ?_
  have w1392 : 0 ≤ (Xi U27 951 (((Xi T25 904 78)).toNat)) ∧ (Xi U27 951 (((Xi T25 904 78)).toNat)) ≤ 5010 := hHU27.c _ _
  have e275 : (Xi U27 951 (((Xi T25 904 78)).toNat)) = Xi S 951 (Xi S 904 78).toNat := by first | rfl | exact (hFU27.cx 951 rfl _).1 | (rw [(hFU27.cx 951 rfl _).1]; exact congrArg (fun t : Int => Xi S 951 t.toNat) (by omega))
  refine l_iconst rfl ?_
  refine l_iconst rfl ?_
  refine l_iconst rfl ?_
  have w1393 : Xi U27 904 106 = Xi T26 904 106 := (show Xi U27 904 106 = Xi T26 904 106 from by rw [eU27]; exact Xi_ne (by omega))
  have w1394 : 0 ≤ Xi T26 904 106 ∧ Xi T26 904 106 ≤ 9 := hHT26.c _ _
  have w1395 : Xi U27 904 108 = Xi T26 904 108 := (show Xi U27 904 108 = Xi T26 904 108 from by rw [eU27]; exact Xi_ne (by omega))
  have w1396 : 0 ≤ Xi T26 904 108 ∧ Xi T26 904 108 ≤ 2600 := hHT26.c _ _
  have w1397 : Xi U27 904 115 = Xi T25 904 115 := (show Xi U27 904 115 = Xi T26 904 115 from by rw [eU27]; exact Xi_ne (by omega)).trans ((show Xi T26 904 115 = Xi T25 904 115 from w1387.x _ _ rfl))
  have w1399 : Xi U27 904 116 = Xi T25 904 116 := (show Xi U27 904 116 = Xi T26 904 116 from by rw [eU27]; exact Xi_ne (by omega)).trans ((show Xi T26 904 116 = Xi T25 904 116 from w1387.x _ _ rfl))
  have w1401 : Xi U27 904 117 = Xi T25 904 117 := (show Xi U27 904 117 = Xi T26 904 117 from by rw [eU27]; exact Xi_ne (by omega)).trans ((show Xi T26 904 117 = Xi T25 904 117 from w1387.x _ _ rfl))
  have w1403 : Xi U27 904 142 = Xi T25 904 142 := (show Xi U27 904 142 = Xi T26 904 142 from by rw [eU27]; exact Xi_ne (by omega)).trans ((show Xi T26 904 142 = Xi T25 904 142 from w1387.x _ _ rfl))
  have w1405 : Xi U27 904 60 = Xi T25 904 60 := (show Xi U27 904 60 = Xi T26 904 60 from by rw [eU27]; exact Xi_ne (by omega)).trans ((show Xi T26 904 60 = Xi T25 904 60 from w1387.x _ _ rfl))
  have w1407 : Xi U27 904 69 = Xi T25 904 69 := (show Xi U27 904 69 = Xi T26 904 69 from by rw [eU27]; exact Xi_ne (by omega)).trans ((show Xi T26 904 69 = Xi T25 904 69 from w1387.x _ _ rfl))
  have w1409 : Xi U27 904 70 = Xi T25 904 70 := (show Xi U27 904 70 = Xi T26 904 70 from by rw [eU27]; exact Xi_ne (by omega)).trans ((show Xi T26 904 70 = Xi T25 904 70 from w1387.x _ _ rfl))
  have w1411 : Xi U27 904 71 = Xi T25 904 71 := (show Xi U27 904 71 = Xi T26 904 71 from by rw [eU27]; exact Xi_ne (by omega)).trans ((show Xi T26 904 71 = Xi T25 904 71 from w1387.x _ _ rfl))
  have w1413 : Xi U27 904 72 = Xi T25 904 72 := (show Xi U27 904 72 = Xi T26 904 72 from by rw [eU27]; exact Xi_ne (by omega)).trans ((show Xi T26 904 72 = Xi T25 904 72 from w1387.x _ _ rfl))
  have w1415 : Xi U27 904 73 = Xi T25 904 73 := (show Xi U27 904 73 = Xi T26 904 73 from by rw [eU27]; exact Xi_ne (by omega)).trans ((show Xi T26 904 73 = Xi T25 904 73 from w1387.x _ _ rfl))
  have w1417 : Xi U27 904 74 = Xi T25 904 74 := (show Xi U27 904 74 = Xi T26 904 74 from by rw [eU27]; exact Xi_ne (by omega)).trans ((show Xi T26 904 74 = Xi T25 904 74 from w1387.x _ _ rfl))
  have w1419 : Xi U27 904 78 = Xi T25 904 78 := (show Xi U27 904 78 = Xi T26 904 78 from by rw [eU27]; exact Xi_ne (by omega)).trans ((show Xi T26 904 78 = Xi T25 904 78 from w1387.x _ _ rfl))
  have w1421 : Xi U27 904 81 = Xi T25 904 81 := (show Xi U27 904 81 = Xi T26 904 81 from by rw [eU27]; exact Xi_ne (by omega)).trans ((show Xi T26 904 81 = Xi T25 904 81 from w1387.x _ _ rfl))
  have w1423 : Xi U27 904 94 = Xi T25 904 94 := (show Xi U27 904 94 = Xi T26 904 94 from by rw [eU27]; exact Xi_ne (by omega)).trans ((show Xi T26 904 94 = Xi T25 904 94 from w1387.x _ _ rfl))
  have w1425 : Xi U27 904 98 = Xi T25 904 98 := (show Xi U27 904 98 = Xi T26 904 98 from by rw [eU27]; exact Xi_ne (by omega)).trans ((show Xi T26 904 98 = Xi T25 904 98 from w1387.x _ _ rfl))
  refine l_callV rfl rfl rfl (t_mo_describe hHU27 (Xi U27 950 (((Xi T25 904 78)).toNat)) (Xi U27 951 (((Xi T25 904 78)).toNat)) 0 0 (-1) ⟨by omega, by omega⟩ ⟨by omega, by omega⟩ ⟨by omega, by omega⟩ ⟨by omega, by omega⟩ ⟨by omega, by omega⟩ (by first | assumption | exact (LXM_FR hFU27 rfl (by assumption : LXM S))) (by first | assumption | exact (ABV_FR hFU27 rfl (by assumption : ABV S))) (by first | assumption | exact (DCM_FR hFU27 rfl (by assumption : DCM S))) (by first | assumption | omega) (fun x => absurd (by omega) x) _) ?_
  rintro _ T28 ⟨hHT28, w1428, rfl, r279⟩
  have hFT28 : FR md_mo_asked S T28 := FR.tr hFU27 w1428 rfl
  show Rl _ _ _ _ _ [] _ _
  refine l_aload_n rfl rfl ?_
  refine l_aload_n rfl rfl ?_
  refine l_gfr rfl rfl rfl rfl rfl (hHT28.r 904 67 950 rfl) ?_
  refine l_aload_n rfl rfl ?_
  refine l_gfi rfl rfl rfl rfl rfl ?_
  have w1429 : (Xi T28 904 78) = (Xi T25 904 78) := (show Xi T28 904 78 = Xi U27 904 78 from w1428.x _ _ rfl).trans ( (show Xi U27 904 78 = Xi T26 904 78 from by rw [eU27]; exact Xi_ne (by omega)).trans ((show Xi T26 904 78 = Xi T25 904 78 from w1387.x _ _ rfl)))
  rw [w1429]
  refine l_iaload (n := 2600) rfl rfl (by omega) (by omega) (by unfold rg; omega) ?_
  have w1430 : (Xi T28 950 (((Xi T25 904 78)).toNat)) = (Xi U27 950 (((Xi T25 904 78)).toNat)) := (show Xi T28 950 (((Xi T25 904 78)).toNat) = Xi U27 950 (((Xi T25 904 78)).toNat) from w1428.x _ _ rfl)
  rw [w1430]
  have e291 : (Xi U27 950 (((Xi T25 904 78)).toNat)) = Xi S 950 (Xi S 904 78).toNat := by first | rfl | exact (hFT28.cx 950 rfl _).1 | (rw [(hFU27.cx 950 rfl _).1]; exact congrArg (fun t : Int => Xi S 950 t.toNat) (by omega))
  have w1431 : Xi T28 904 106 = Xi T26 904 106 := (show Xi T28 904 106 = Xi U27 904 106 from w1428.x _ _ rfl).trans ((show Xi U27 904 106 = Xi T26 904 106 from by rw [eU27]; exact Xi_ne (by omega)))
  have w1433 : Xi T28 904 108 = Xi T26 904 108 := (show Xi T28 904 108 = Xi U27 904 108 from w1428.x _ _ rfl).trans ((show Xi U27 904 108 = Xi T26 904 108 from by rw [eU27]; exact Xi_ne (by omega)))
  have w1435 : Xi T28 904 115 = Xi T25 904 115 := (show Xi T28 904 115 = Xi U27 904 115 from w1428.x _ _ rfl).trans ( (show Xi U27 904 115 = Xi T26 904 115 from by rw [eU27]; exact Xi_ne (by omega)).trans ((show Xi T26 904 115 = Xi T25 904 115 from w1387.x _ _ rfl)))
  have w1437 : Xi T28 904 116 = Xi T25 904 116 := (show Xi T28 904 116 = Xi U27 904 116 from w1428.x _ _ rfl).trans ( (show Xi U27 904 116 = Xi T26 904 116 from by rw [eU27]; exact Xi_ne (by omega)).trans ((show Xi T26 904 116 = Xi T25 904 116 from w1387.x _ _ rfl)))
  have w1439 : Xi T28 904 117 = Xi T25 904 117 := (show Xi T28 904 117 = Xi U27 904 117 from w1428.x _ _ rfl).trans ( (show Xi U27 904 117 = Xi T26 904 117 from by rw [eU27]; exact Xi_ne (by omega)).trans ((show Xi T26 904 117 = Xi T25 904 117 from w1387.x _ _ rfl)))
  have w1441 : Xi T28 904 142 = Xi T25 904 142 := (show Xi T28 904 142 = Xi U27 904 142 from w1428.x _ _ rfl).trans ( (show Xi U27 904 142 = Xi T26 904 142 from by rw [eU27]; exact Xi_ne (by omega)).trans ((show Xi T26 904 142 = Xi T25 904 142 from w1387.x _ _ rfl)))
  have w1443 : Xi T28 904 60 = Xi T25 904 60 := (show Xi T28 904 60 = Xi U27 904 60 from w1428.x _ _ rfl).trans ( (show Xi U27 904 60 = Xi T26 904 60 from by rw [eU27]; exact Xi_ne (by omega)).trans ((show Xi T26 904 60 = Xi T25 904 60 from w1387.x _ _ rfl)))
  have w1445 : Xi T28 904 69 = Xi T25 904 69 := (show Xi T28 904 69 = Xi U27 904 69 from w1428.x _ _ rfl).trans ( (show Xi U27 904 69 = Xi T26 904 69 from by rw [eU27]; exact Xi_ne (by omega)).trans ((show Xi T26 904 69 = Xi T25 904 69 from w1387.x _ _ rfl)))
  have w1447 : Xi T28 904 70 = Xi T25 904 70 := (show Xi T28 904 70 = Xi U27 904 70 from w1428.x _ _ rfl).trans ( (show Xi U27 904 70 = Xi T26 904 70 from by rw [eU27]; exact Xi_ne (by omega)).trans ((show Xi T26 904 70 = Xi T25 904 70 from w1387.x _ _ rfl)))
  have w1449 : Xi T28 904 71 = Xi T25 904 71 := (show Xi T28 904 71 = Xi U27 904 71 from w1428.x _ _ rfl).trans ( (show Xi U27 904 71 = Xi T26 904 71 from by rw [eU27]; exact Xi_ne (by omega)).trans ((show Xi T26 904 71 = Xi T25 904 71 from w1387.x _ _ rfl)))
  have w1451 : Xi T28 904 72 = Xi T25 904 72 := (show Xi T28 904 72 = Xi U27 904 72 from w1428.x _ _ rfl).trans ( (show Xi U27 904 72 = Xi T26 904 72 from by rw [eU27]; exact Xi_ne (by omega)).trans ((show Xi T26 904 72 = Xi T25 904 72 from w1387.x _ _ rfl)))
  have w1453 : Xi T28 904 73 = Xi T25 904 73 := (show Xi T28 904 73 = Xi U27 904 73 from w1428.x _ _ rfl).trans ( (show Xi U27 904 73 = Xi T26 904 73 from by rw [eU27]; exact Xi_ne (by omega)).trans ((show Xi T26 904 73 = Xi T25 904 73 from w1387.x _ _ rfl)))
  have w1455 : Xi T28 904 74 = Xi T25 904 74 := (show Xi T28 904 74 = Xi U27 904 74 from w1428.x _ _ rfl).trans ( (show Xi U27 904 74 = Xi T26 904 74 from by rw [eU27]; exact Xi_ne (by omega)).trans ((show Xi T26 904 74 = Xi T25 904 74 from w1387.x _ _ rfl)))
  have w1457 : Xi T28 904 78 = Xi T25 904 78 := (show Xi T28 904 78 = Xi U27 904 78 from w1428.x _ _ rfl).trans ( (show Xi U27 904 78 = Xi T26 904 78 from by rw [eU27]; exact Xi_ne (by omega)).trans ((show Xi T26 904 78 = Xi T25 904 78 from w1387.x _ _ rfl)))
  have w1459 : Xi T28 904 81 = Xi T25 904 81 := (show Xi T28 904 81 = Xi U27 904 81 from w1428.x _ _ rfl).trans ( (show Xi U27 904 81 = Xi T26 904 81 from by rw [eU27]; exact Xi_ne (by omega)).trans ((show Xi T26 904 81 = Xi T25 904 81 from w1387.x _ _ rfl)))
  have w1461 : Xi T28 904 94 = Xi T25 904 94 := (show Xi T28 904 94 = Xi U27 904 94 from w1428.x _ _ rfl).trans ( (show Xi U27 904 94 = Xi T26 904 94 from by rw [eU27]; exact Xi_ne (by omega)).trans ((show Xi T26 904 94 = Xi T25 904 94 from w1387.x _ _ rfl)))
  have w1463 : Xi T28 904 98 = Xi T25 904 98 := (show Xi T28 904 98 = Xi U27 904 98 from w1428.x _ _ rfl).trans ( (show Xi U27 904 98 = Xi T26 904 98 from by rw [eU27]; exact Xi_ne (by omega)).trans ((show Xi T26 904 98 = Xi T25 904 98 from w1387.x _ _ rfl)))
  refine l_callV rfl rfl rfl (t_mo_oneReading__2 hHT28 (Xi U27 950 (((Xi T25 904 78)).toNat)) ⟨by omega, by omega⟩ _) ?_
  rintro _ T29 ⟨hHT29, w1467, rfl, w1465, n292_⟩
  have hFT29 : FR md_mo_asked S T29 := FR.tr hFT28 w1467 rfl
  show Rl _ _ _ _ _ [] _ _
  have n292 : Xi T29 904 106 = 0 → Xi T29 904 109 ≠ 0 := fun q => by have t := n292_ q; rw [(by assumption : FR md_mo_oneReading T28 T29).x 904 109 rfl]; exact t
  clear n292_
  refine l_aload_n rfl rfl ?_
  have w1468 : 0 ≤ Xi T29 904 106 ∧ Xi T29 904 106 ≤ 9 := hHT29.c _ _
  have w1469 : Xi T29 904 108 = Xi T26 904 108 := (show Xi T29 904 108 = Xi T28 904 108 from w1467.x _ _ rfl).trans ( (show Xi T28 904 108 = Xi U27 904 108 from w1428.x _ _ rfl).trans ((show Xi U27 904 108 = Xi T26 904 108 from by rw [eU27]; exact Xi_ne (by omega))))
  have w1471 : Xi T29 904 109 = Xi T28 904 109 := (show Xi T29 904 109 = Xi T28 904 109 from w1467.x _ _ rfl)
  have w1472 : Xi T29 904 115 = Xi T25 904 115 := (show Xi T29 904 115 = Xi T28 904 115 from w1467.x _ _ rfl).trans ( (show Xi T28 904 115 = Xi U27 904 115 from w1428.x _ _ rfl).trans ( (show Xi U27 904 115 = Xi T26 904 115 from by rw [eU27]; exact Xi_ne (by omega)).trans ((show Xi T26 904 115 = Xi T25 904 115 from w1387.x _ _ rfl))))
  have w1474 : Xi T29 904 116 = Xi T25 904 116 := (show Xi T29 904 116 = Xi T28 904 116 from w1467.x _ _ rfl).trans ( (show Xi T28 904 116 = Xi U27 904 116 from w1428.x _ _ rfl).trans ( (show Xi U27 904 116 = Xi T26 904 116 from by rw [eU27]; exact Xi_ne (by omega)).trans ((show Xi T26 904 116 = Xi T25 904 116 from w1387.x _ _ rfl))))
  have w1476 : Xi T29 904 117 = Xi T25 904 117 := (show Xi T29 904 117 = Xi T28 904 117 from w1467.x _ _ rfl).trans ( (show Xi T28 904 117 = Xi U27 904 117 from w1428.x _ _ rfl).trans ( (show Xi U27 904 117 = Xi T26 904 117 from by rw [eU27]; exact Xi_ne (by omega)).trans ((show Xi T26 904 117 = Xi T25 904 117 from w1387.x _ _ rfl))))
  have w1478 : Xi T29 904 142 = Xi T25 904 142 := (show Xi T29 904 142 = Xi T28 904 142 from w1467.x _ _ rfl).trans ( (show Xi T28 904 142 = Xi U27 904 142 from w1428.x _ _ rfl).trans ( (show Xi U27 904 142 = Xi T26 904 142 from by rw [eU27]; exact Xi_ne (by omega)).trans ((show Xi T26 904 142 = Xi T25 904 142 from w1387.x _ _ rfl))))
  have w1480 : Xi T29 904 60 = Xi T25 904 60 := (show Xi T29 904 60 = Xi T28 904 60 from w1467.x _ _ rfl).trans ( (show Xi T28 904 60 = Xi U27 904 60 from w1428.x _ _ rfl).trans ( (show Xi U27 904 60 = Xi T26 904 60 from by rw [eU27]; exact Xi_ne (by omega)).trans ((show Xi T26 904 60 = Xi T25 904 60 from w1387.x _ _ rfl))))
  have w1482 : Xi T29 904 69 = Xi T25 904 69 := (show Xi T29 904 69 = Xi T28 904 69 from w1467.x _ _ rfl).trans ( (show Xi T28 904 69 = Xi U27 904 69 from w1428.x _ _ rfl).trans ( (show Xi U27 904 69 = Xi T26 904 69 from by rw [eU27]; exact Xi_ne (by omega)).trans ((show Xi T26 904 69 = Xi T25 904 69 from w1387.x _ _ rfl))))
  have w1484 : Xi T29 904 70 = Xi T25 904 70 := (show Xi T29 904 70 = Xi T28 904 70 from w1467.x _ _ rfl).trans ( (show Xi T28 904 70 = Xi U27 904 70 from w1428.x _ _ rfl).trans ( (show Xi U27 904 70 = Xi T26 904 70 from by rw [eU27]; exact Xi_ne (by omega)).trans ((show Xi T26 904 70 = Xi T25 904 70 from w1387.x _ _ rfl))))
  have w1486 : Xi T29 904 71 = Xi T25 904 71 := (show Xi T29 904 71 = Xi T28 904 71 from w1467.x _ _ rfl).trans ( (show Xi T28 904 71 = Xi U27 904 71 from w1428.x _ _ rfl).trans ( (show Xi U27 904 71 = Xi T26 904 71 from by rw [eU27]; exact Xi_ne (by omega)).trans ((show Xi T26 904 71 = Xi T25 904 71 from w1387.x _ _ rfl))))
  have w1488 : Xi T29 904 72 = Xi T25 904 72 := (show Xi T29 904 72 = Xi T28 904 72 from w1467.x _ _ rfl).trans ( (show Xi T28 904 72 = Xi U27 904 72 from w1428.x _ _ rfl).trans ( (show Xi U27 904 72 = Xi T26 904 72 from by rw [eU27]; exact Xi_ne (by omega)).trans ((show Xi T26 904 72 = Xi T25 904 72 from w1387.x _ _ rfl))))
  have w1490 : Xi T29 904 73 = Xi T25 904 73 := (show Xi T29 904 73 = Xi T28 904 73 from w1467.x _ _ rfl).trans ( (show Xi T28 904 73 = Xi U27 904 73 from w1428.x _ _ rfl).trans ( (show Xi U27 904 73 = Xi T26 904 73 from by rw [eU27]; exact Xi_ne (by omega)).trans ((show Xi T26 904 73 = Xi T25 904 73 from w1387.x _ _ rfl))))
  have w1492 : Xi T29 904 74 = Xi T25 904 74 := (show Xi T29 904 74 = Xi T28 904 74 from w1467.x _ _ rfl).trans ( (show Xi T28 904 74 = Xi U27 904 74 from w1428.x _ _ rfl).trans ( (show Xi U27 904 74 = Xi T26 904 74 from by rw [eU27]; exact Xi_ne (by omega)).trans ((show Xi T26 904 74 = Xi T25 904 74 from w1387.x _ _ rfl))))
  have w1494 : Xi T29 904 78 = Xi T25 904 78 := (show Xi T29 904 78 = Xi T28 904 78 from w1467.x _ _ rfl).trans ( (show Xi T28 904 78 = Xi U27 904 78 from w1428.x _ _ rfl).trans ( (show Xi U27 904 78 = Xi T26 904 78 from by rw [eU27]; exact Xi_ne (by omega)).trans ((show Xi T26 904 78 = Xi T25 904 78 from w1387.x _ _ rfl))))
  have w1496 : Xi T29 904 81 = Xi T25 904 81 := (show Xi T29 904 81 = Xi T28 904 81 from w1467.x _ _ rfl).trans ( (show Xi T28 904 81 = Xi U27 904 81 from w1428.x _ _ rfl).trans ( (show Xi U27 904 81 = Xi T26 904 81 from by rw [eU27]; exact Xi_ne (by omega)).trans ((show Xi T26 904 81 = Xi T25 904 81 from w1387.x _ _ rfl))))
  have w1498 : Xi T29 904 94 = Xi T25 904 94 := (show Xi T29 904 94 = Xi T28 904 94 from w1467.x _ _ rfl).trans ( (show Xi T28 904 94 = Xi U27 904 94 from w1428.x _ _ rfl).trans ( (show Xi U27 904 94 = Xi T26 904 94 from by rw [eU27]; exact Xi_ne (by omega)).trans ((show Xi T26 904 94 = Xi T25 904 94 from w1387.x _ _ rfl))))
  have w1500 : Xi T29 904 98 = Xi T25 904 98 := (show Xi T29 904 98 = Xi T28 904 98 from w1467.x _ _ rfl).trans ( (show Xi T28 904 98 = Xi U27 904 98 from w1428.x _ _ rfl).trans ( (show Xi U27 904 98 = Xi T26 904 98 from by rw [eU27]; exact Xi_ne (by omega)).trans ((show Xi T26 904 98 = Xi T25 904 98 from w1387.x _ _ rfl))))
  refine l_callV rfl rfl rfl (t_mo_askPlace hHT29 n (by first | assumption | exact (TK_FR hFT29 rfl (by assumption : TK S _))) (by first | assumption | exact (RNV_FR hFT29 rfl (by assumption : RNV S _))) (by first | assumption | exact (LXM_FR hFT29 rfl (by assumption : LXM S))) (by first | assumption | exact (ABV_FR hFT29 rfl (by assumption : ABV S))) (by first | assumption | omega) _) ?_
  rintro _ T30 ⟨hHT30, w1504, rfl, w1502, f296⟩
  have hFT30 : FR md_mo_asked S T30 := FR.tr hFT29 w1504 rfl
  show Rl _ _ _ _ _ [] _ _
  have y296_109 : Xi T30 904 109 = Xi T29 904 109 := (by assumption : FR md_mo_askPlace T29 T30).x 904 109 rfl
  have y296_69 : Xi T30 904 69 = Xi T25 904 69 := ((show Xi T30 904 69 = Xi T29 904 69 from w1504.x _ _ rfl).trans ((show Xi T29 904 69 = Xi T28 904 69 from w1467.x _ _ rfl).trans ((show Xi T28 904 69 = Xi U27 904 69 from w1428.x _ _ rfl).trans ((show Xi U27 904 69 = Xi T26 904 69 from by rw [eU27]; exact Xi_ne (by omega)).trans ((show Xi T26 904 69 = Xi T25 904 69 from w1387.x _ _ rfl))))))
  have y296_70 : Xi T30 904 70 = Xi T25 904 70 := ((show Xi T30 904 70 = Xi T29 904 70 from w1504.x _ _ rfl).trans ((show Xi T29 904 70 = Xi T28 904 70 from w1467.x _ _ rfl).trans ((show Xi T28 904 70 = Xi U27 904 70 from w1428.x _ _ rfl).trans ((show Xi U27 904 70 = Xi T26 904 70 from by rw [eU27]; exact Xi_ne (by omega)).trans ((show Xi T26 904 70 = Xi T25 904 70 from w1387.x _ _ rfl))))))
  have y296_71 : Xi T30 904 71 = Xi T25 904 71 := ((show Xi T30 904 71 = Xi T29 904 71 from w1504.x _ _ rfl).trans ((show Xi T29 904 71 = Xi T28 904 71 from w1467.x _ _ rfl).trans ((show Xi T28 904 71 = Xi U27 904 71 from w1428.x _ _ rfl).trans ((show Xi U27 904 71 = Xi T26 904 71 from by rw [eU27]; exact Xi_ne (by omega)).trans ((show Xi T26 904 71 = Xi T25 904 71 from w1387.x _ _ rfl))))))
  have y296_72 : Xi T30 904 72 = Xi T25 904 72 := ((show Xi T30 904 72 = Xi T29 904 72 from w1504.x _ _ rfl).trans ((show Xi T29 904 72 = Xi T28 904 72 from w1467.x _ _ rfl).trans ((show Xi T28 904 72 = Xi U27 904 72 from w1428.x _ _ rfl).trans ((show Xi U27 904 72 = Xi T26 904 72 from by rw [eU27]; exact Xi_ne (by omega)).trans ((show Xi T26 904 72 = Xi T25 904 72 from w1387.x _ _ rfl))))))
  have y296_73 : Xi T30 904 73 = Xi T25 904 73 := ((show Xi T30 904 73 = Xi T29 904 73 from w1504.x _ _ rfl).trans ((show Xi T29 904 73 = Xi T28 904 73 from w1467.x _ _ rfl).trans ((show Xi T28 904 73 = Xi U27 904 73 from w1428.x _ _ rfl).trans ((show Xi U27 904 73 = Xi T26 904 73 from by rw [eU27]; exact Xi_ne (by omega)).trans ((show Xi T26 904 73 = Xi T25 904 73 from w1387.x _ _ rfl))))))
  have y296_74 : Xi T30 904 74 = Xi T25 904 74 := ((show Xi T30 904 74 = Xi T29 904 74 from w1504.x _ _ rfl).trans ((show Xi T29 904 74 = Xi T28 904 74 from w1467.x _ _ rfl).trans ((show Xi T28 904 74 = Xi U27 904 74 from w1428.x _ _ rfl).trans ((show Xi U27 904 74 = Xi T26 904 74 from by rw [eU27]; exact Xi_ne (by omega)).trans ((show Xi T26 904 74 = Xi T25 904 74 from w1387.x _ _ rfl))))))
  have y296_78 : Xi T30 904 78 = Xi T25 904 78 := ((show Xi T30 904 78 = Xi T29 904 78 from w1504.x _ _ rfl).trans ((show Xi T29 904 78 = Xi T28 904 78 from w1467.x _ _ rfl).trans ((show Xi T28 904 78 = Xi U27 904 78 from w1428.x _ _ rfl).trans ((show Xi U27 904 78 = Xi T26 904 78 from by rw [eU27]; exact Xi_ne (by omega)).trans ((show Xi T26 904 78 = Xi T25 904 78 from w1387.x _ _ rfl))))))
  have y296_81 : Xi T30 904 81 = Xi T25 904 81 := ((show Xi T30 904 81 = Xi T29 904 81 from w1504.x _ _ rfl).trans ((show Xi T29 904 81 = Xi T28 904 81 from w1467.x _ _ rfl).trans ((show Xi T28 904 81 = Xi U27 904 81 from w1428.x _ _ rfl).trans ((show Xi U27 904 81 = Xi T26 904 81 from by rw [eU27]; exact Xi_ne (by omega)).trans ((show Xi T26 904 81 = Xi T25 904 81 from w1387.x _ _ rfl))))))
  have y296_94 : Xi T30 904 94 = Xi T25 904 94 := ((show Xi T30 904 94 = Xi T29 904 94 from w1504.x _ _ rfl).trans ((show Xi T29 904 94 = Xi T28 904 94 from w1467.x _ _ rfl).trans ((show Xi T28 904 94 = Xi U27 904 94 from w1428.x _ _ rfl).trans ((show Xi U27 904 94 = Xi T26 904 94 from by rw [eU27]; exact Xi_ne (by omega)).trans ((show Xi T26 904 94 = Xi T25 904 94 from w1387.x _ _ rfl))))))
  have y296_98 : Xi T30 904 98 = Xi T25 904 98 := ((show Xi T30 904 98 = Xi T29 904 98 from w1504.x _ _ rfl).trans ((show Xi T29 904 98 = Xi T28 904 98 from w1467.x _ _ rfl).trans ((show Xi T28 904 98 = Xi U27 904 98 from w1428.x _ _ rfl).trans ((show Xi U27 904 98 = Xi T26 904 98 from by rw [eU27]; exact Xi_ne (by omega)).trans ((show Xi T26 904 98 = Xi T25 904 98 from w1387.x _ _ rfl))))))
  have y296_60 : Xi T30 904 60 = Xi T25 904 60 := ((show Xi T30 904 60 = Xi T29 904 60 from w1504.x _ _ rfl).trans ((show Xi T29 904 60 = Xi T28 904 60 from w1467.x _ _ rfl).trans ((show Xi T28 904 60 = Xi U27 904 60 from w1428.x _ _ rfl).trans ((show Xi U27 904 60 = Xi T26 904 60 from by rw [eU27]; exact Xi_ne (by omega)).trans ((show Xi T26 904 60 = Xi T25 904 60 from w1387.x _ _ rfl))))))
  have y296_117 : Xi T30 904 117 = Xi T25 904 117 := ((show Xi T30 904 117 = Xi T29 904 117 from w1504.x _ _ rfl).trans ((show Xi T29 904 117 = Xi T28 904 117 from w1467.x _ _ rfl).trans ((show Xi T28 904 117 = Xi U27 904 117 from w1428.x _ _ rfl).trans ((show Xi U27 904 117 = Xi T26 904 117 from by rw [eU27]; exact Xi_ne (by omega)).trans ((show Xi T26 904 117 = Xi T25 904 117 from w1387.x _ _ rfl))))))
  have F296 : Xi T30 904 106 = 0 → DOK T30 := fun q => dok_12 (by omega) (by have t := (RDV_FR w1504 rfl (RDV_FR w1467 rfl (by assumption : RDV T28 _))) (by have t := n292 (by omega); omega); exact ⟨ona_fw hFT30 rfl (O249 (by omega)), ⟨t.1, fun i hi => (t.2 i hi).1⟩, fun y => by have u := f296 q (by omega); rw [rnR_FR hFT29 rfl rfl] at u; rw [rnR_FR hFT30 rfl rfl, show Xi T30 904 74 = Xi T29 904 74 by omega]; exact u⟩)
  refine l_goto rfl rfl ?_
  refine l_return rfl rfl ?_
  have w1505 : 0 ≤ Xi T30 904 106 ∧ Xi T30 904 106 ≤ 9 := hHT30.c _ _
  exact ⟨hHT30, hFT30, rfl, (by assumption), (by first | exact fun q => by assumption | assumption | exact fun q => (RDT_FR hHT29 w1504 rfl rfl rfl (RDT_FR hHT28 w1467 rfl rfl rfl (RDT_FR hHU27 w1428 rfl rfl rfl (RDT_FR hHT26 (FR_e eU27) rfl rfl rfl (RDT_FR hHT25 w1387 rfl rfl rfl (by assumption : RDT T25)))))))⟩
set_option maxRecDepth 100000 in
set_option maxHeartbeats 8000000 in
theorem c302_mo_asked {S : sS} (hH : HI S) (n : Nat) (dd : Nat) (first : Int) (hfirst : 0 ≤ first ∧ first ≤ 5001) (hT : TK S n) (hv : RNV S n) (hM : LXM S) (hB : ABV S) (hC : DCM S) (hK : TXK S n) (hX : TXM S) (hq : SNQ S n) (hap : AP9 S n) (h94 : Xi S 904 94 ≤ 1668) (hRD : RDT S) (hPF : PF S) (hdt : Xi S 904 70 = 20 → first ≤ dd ∧ dd < n ∧ Xi S 907 dd = 46) (d : Nat) : ∀  (T31 : sS) (_ : HI T31) (_ : FR md_mo_asked S T31), (Xi T31 904 117 = Xi S 904 117) → (Xi T31 904 69 = Xi S 904 69) → (Xi T31 904 70 = Xi S 904 70) → (Xi T31 904 71 = Xi S 904 71) → (Xi T31 904 72 = Xi S 904 72) → (Xi T31 904 73 = Xi S 904 73) → (Xi T31 904 74 = Xi S 904 74) → (Xi T31 904 78 = Xi S 904 78) → (Xi T31 904 81 = Xi S 904 81) → (Xi T31 904 94 = Xi S 904 94) → (Xi T31 904 98 = Xi S 904 98) → (Xi T31 904 60 = Xi S 904 60) → (Xi T31 904 106 = 0) → (Xi T31 904 108 = 0) → (Xi T31 904 115 = -1) → (Xi T31 904 116 = -1) → (SNQ T31 n) → (RDT T31) → (KQL T31 S (Xi S 904 117)) → (Xi S 904 70 = 13) → Rl lay0 (d + 12) m_mo_asked 302 [(0, .ref 904)] [] T31 (Q_mo_asked S n dd first) := by
  have hF : FR md_mo_asked S S := FR.rf
  have w1 : 0 ≤ Xi S 904 106 ∧ Xi S 904 106 ≤ 9 := hH.c _ _
  have w2 : 0 ≤ Xi S 904 108 ∧ Xi S 904 108 ≤ 2600 := hH.c _ _
  have w3 : -1 ≤ Xi S 904 115 ∧ Xi S 904 115 ≤ 15 := hH.c _ _
  have w4 : -1 ≤ Xi S 904 116 ∧ Xi S 904 116 ≤ 15 := hH.c _ _
  have w5 : 0 ≤ Xi S 904 117 ∧ Xi S 904 117 ≤ 480 := hH.c _ _
  have w6 : 0 ≤ Xi S 904 23 ∧ Xi S 904 23 ≤ 24 := hH.c _ _
  have w7 : 0 ≤ Xi S 904 41 ∧ Xi S 904 41 ≤ 6 := hH.c _ _
  have w8 : -1 ≤ Xi S 904 60 ∧ Xi S 904 60 ≤ 23 := hH.c _ _
  have w9 : 0 ≤ Xi S 904 69 ∧ Xi S 904 69 ≤ 2600 := hH.c _ _
  have w10 : 0 ≤ Xi S 904 70 ∧ Xi S 904 70 ≤ 20 := hH.c _ _
  have w11 : 0 ≤ Xi S 904 71 ∧ Xi S 904 71 ≤ 2600 := hH.c _ _
  have w12 : 0 ≤ Xi S 904 72 ∧ Xi S 904 72 ≤ 2600 := hH.c _ _
  have w13 : 0 ≤ Xi S 904 73 ∧ Xi S 904 73 ≤ 5 := hH.c _ _
  have w14 : 0 ≤ Xi S 904 74 ∧ Xi S 904 74 ≤ 2600 := hH.c _ _
  have w15 : -2 ≤ Xi S 904 78 ∧ Xi S 904 78 ≤ 5010 := hH.c _ _
  have w16 : 0 ≤ Xi S 904 81 ∧ Xi S 904 81 ≤ 5010 := hH.c _ _
  have w17 : 0 ≤ Xi S 904 94 ∧ Xi S 904 94 ≤ 1700 := hH.c _ _
  have w18 : 0 ≤ Xi S 904 98 ∧ Xi S 904 98 ≤ 1700 := hH.c _ _
  have w19 : 0 ≤ Xi S 951 0 ∧ Xi S 951 0 ≤ 5010 := hH.c _ _
  have w20 : 0 ≤ Xi S 951 1 ∧ Xi S 951 1 ≤ 5010 := hH.c _ _
  have hn5 := hT.1
  have hc69 : 0 ≤ Xi S 904 69 ∧ Xi S 904 69 ≤ 2600 := hH.c _ _
  have hc70 : 0 ≤ Xi S 904 70 ∧ Xi S 904 70 ≤ 20 := hH.c _ _
  have hc23 : 0 ≤ Xi S 904 23 ∧ Xi S 904 23 ≤ 24 := hH.c _ _
  have hrf : ∀ r : Int, 0 ≤ r → r < Xi S 904 69 → Xi S 950 r.toNat + Xi S 951 r.toNat ≤ n ∧ 1 ≤ Xi S 951 r.toNat := fun r a b => hv r.toNat (by omega)
  have hq0 : KQL S S (Xi S 904 117) := KQL.rf
  intro T31 hHT31 hFT31 w1539 w1540 w1541 w1542 w1543 w1544 w1545 w1546 w1547 w1548 w1549 w1550 w1551 w1552 w1553 w1554 q20 r20 K20 w1555
  have w1556 : Xi T31 904 102 = Xi S 904 102 := hFT31.x _ _ rfl
  have w1557 : Xi T31 904 103 = Xi S 904 103 := hFT31.x _ _ rfl
  have w1558 : Xi T31 904 16 = Xi S 904 16 := hFT31.x _ _ rfl
  have w1559 : Xi T31 904 18 = Xi S 904 18 := hFT31.x _ _ rfl
  have w1560 : Xi T31 904 19 = Xi S 904 19 := hFT31.x _ _ rfl
  have w1561 : Xi T31 904 23 = Xi S 904 23 := hFT31.x _ _ rfl
  have w1562 : Xi T31 904 30 = Xi S 904 30 := hFT31.x _ _ rfl
  have w1563 : Xi T31 904 41 = Xi S 904 41 := hFT31.x _ _ rfl
  have w1564 : Xi T31 904 47 = Xi S 904 47 := hFT31.x _ _ rfl
  have w1565 : Xi T31 904 49 = Xi S 904 49 := hFT31.x _ _ rfl
  have w1566 : Xi T31 904 55 = Xi S 904 55 := hFT31.x _ _ rfl
  have w1567 : Xi T31 904 60 = Xi S 904 60 := hFT31.x _ _ rfl
  have w1568 : Xi T31 904 69 = Xi S 904 69 := hFT31.x _ _ rfl
  have w1569 : Xi T31 904 70 = Xi S 904 70 := hFT31.x _ _ rfl
  have w1570 : Xi T31 904 71 = Xi S 904 71 := hFT31.x _ _ rfl
  have w1571 : Xi T31 904 72 = Xi S 904 72 := hFT31.x _ _ rfl
  have w1572 : Xi T31 904 73 = Xi S 904 73 := hFT31.x _ _ rfl
  have w1573 : Xi T31 904 74 = Xi S 904 74 := hFT31.x _ _ rfl
  have w1574 : Xi T31 904 78 = Xi S 904 78 := hFT31.x _ _ rfl
  have w1575 : Xi T31 904 81 = Xi S 904 81 := hFT31.x _ _ rfl
  have w1576 : Xi T31 904 94 = Xi S 904 94 := hFT31.x _ _ rfl
  have w1577 : Xi T31 904 98 = Xi S 904 98 := hFT31.x _ _ rfl
  have w1578 : Xi T31 951 0 = Xi S 951 0 := hFT31.x _ _ rfl
  have w1579 : Xi T31 951 1 = Xi S 951 1 := hFT31.x _ _ rfl
  have w1580 : 0 ≤ Xi T31 904 106 ∧ Xi T31 904 106 ≤ 9 := hHT31.c _ _
  have w1581 : 0 ≤ Xi T31 904 108 ∧ Xi T31 904 108 ≤ 2600 := hHT31.c _ _
  have w1582 : -1 ≤ Xi T31 904 115 ∧ Xi T31 904 115 ≤ 15 := hHT31.c _ _
  have w1583 : -1 ≤ Xi T31 904 116 ∧ Xi T31 904 116 ≤ 15 := hHT31.c _ _
  have w1584 : 0 ≤ Xi T31 904 117 ∧ Xi T31 904 117 ≤ 480 := hHT31.c _ _
  have w1585 : -1 ≤ Xi T31 904 60 ∧ Xi T31 904 60 ≤ 23 := hHT31.c _ _
  have w1586 : 0 ≤ Xi T31 904 69 ∧ Xi T31 904 69 ≤ 2600 := hHT31.c _ _
  have w1587 : 0 ≤ Xi T31 904 70 ∧ Xi T31 904 70 ≤ 20 := hHT31.c _ _
  have w1588 : 0 ≤ Xi T31 904 71 ∧ Xi T31 904 71 ≤ 2600 := hHT31.c _ _
  have w1589 : 0 ≤ Xi T31 904 72 ∧ Xi T31 904 72 ≤ 2600 := hHT31.c _ _
  have w1590 : 0 ≤ Xi T31 904 73 ∧ Xi T31 904 73 ≤ 5 := hHT31.c _ _
  have w1591 : 0 ≤ Xi T31 904 74 ∧ Xi T31 904 74 ≤ 2600 := hHT31.c _ _
  have w1592 : -2 ≤ Xi T31 904 78 ∧ Xi T31 904 78 ≤ 5010 := hHT31.c _ _
  have w1593 : 0 ≤ Xi T31 904 81 ∧ Xi T31 904 81 ≤ 5010 := hHT31.c _ _
  have w1594 : 0 ≤ Xi T31 904 94 ∧ Xi T31 904 94 ≤ 1700 := hHT31.c _ _
  have w1595 : 0 ≤ Xi T31 904 98 ∧ Xi T31 904 98 ≤ 1700 := hHT31.c _ _
  refine l_aload_n rfl rfl ?_
  have s302 := q20.2.2.2.2.2.1 (by omega)
  have z302 : Xi T31 904 74 < Xi T31 904 69 := q20.2.2.2.2.2.2.2.2.1 (by omega)
  have w1601 : 0 ≤ Xi T31 904 142 ∧ Xi T31 904 142 ≤ 4 := hHT31.c _ _
  refine l_callV rfl rfl rfl (t_mo_objectsOrNew hHT31 n (by first | assumption | exact (TK_FR hFT31 rfl (by assumption : TK S _))) (by first | assumption | exact (RNV_FR hFT31 rfl (by assumption : RNV S _))) (by first | assumption | exact (LXM_FR hFT31 rfl (by assumption : LXM S))) (by first | assumption | exact fun k hk => absurd hk (by omega) | exact (by assumption : NWV T31)) (by first | assumption | omega) (by first | assumption | omega) _) ?_
  rintro _ T32 ⟨hHT32, w1617, rfl, w1613, f303, w1614, w1615⟩
  have hFT32 : FR md_mo_asked S T32 := FR.tr hFT31 w1617 rfl
  show Rl _ _ _ _ _ [] _ _
  have O303 : Xi T32 904 106 = 0 → ONA S := fun q => ona_bk hFT31 rfl (f303 q)
  clear f303
  refine l_aload_n rfl rfl ?_
  have w1618 : 0 ≤ Xi T32 904 106 ∧ Xi T32 904 106 ≤ 9 := hHT32.c _ _
  have w1619 : 0 ≤ Xi T32 904 108 ∧ Xi T32 904 108 ≤ 2600 := hHT32.c _ _
  have w1620 : Xi T32 904 109 = Xi T31 904 109 := (show Xi T32 904 109 = Xi T31 904 109 from w1617.x _ _ rfl)
  have w1621 : Xi T32 904 115 = Xi T31 904 115 := (show Xi T32 904 115 = Xi T31 904 115 from w1617.x _ _ rfl)
  have w1623 : Xi T32 904 116 = Xi T31 904 116 := (show Xi T32 904 116 = Xi T31 904 116 from w1617.x _ _ rfl)
  have w1625 : Xi T32 904 117 = Xi T31 904 117 := (show Xi T32 904 117 = Xi T31 904 117 from w1617.x _ _ rfl)
  have w1627 : Xi T32 904 142 = Xi T31 904 142 := (show Xi T32 904 142 = Xi T31 904 142 from w1617.x _ _ rfl)
  have w1629 : Xi T32 904 60 = Xi T31 904 60 := (show Xi T32 904 60 = Xi T31 904 60 from w1617.x _ _ rfl)
  have w1631 : Xi T32 904 69 = Xi T31 904 69 := (show Xi T32 904 69 = Xi T31 904 69 from w1617.x _ _ rfl)
  have w1633 : Xi T32 904 70 = Xi T31 904 70 := (show Xi T32 904 70 = Xi T31 904 70 from w1617.x _ _ rfl)
  have w1635 : Xi T32 904 71 = Xi T31 904 71 := (show Xi T32 904 71 = Xi T31 904 71 from w1617.x _ _ rfl)
  have w1637 : Xi T32 904 72 = Xi T31 904 72 := (show Xi T32 904 72 = Xi T31 904 72 from w1617.x _ _ rfl)
  have w1639 : Xi T32 904 73 = Xi T31 904 73 := (show Xi T32 904 73 = Xi T31 904 73 from w1617.x _ _ rfl)
  have w1641 : Xi T32 904 74 = Xi T31 904 74 := (show Xi T32 904 74 = Xi T31 904 74 from w1617.x _ _ rfl)
  have w1643 : Xi T32 904 78 = Xi T31 904 78 := (show Xi T32 904 78 = Xi T31 904 78 from w1617.x _ _ rfl)
  have w1645 : Xi T32 904 81 = Xi T31 904 81 := (show Xi T32 904 81 = Xi T31 904 81 from w1617.x _ _ rfl)
  have w1647 : Xi T32 904 94 = Xi T31 904 94 := (show Xi T32 904 94 = Xi T31 904 94 from w1617.x _ _ rfl)
  have w1649 : Xi T32 904 98 = Xi T31 904 98 := (show Xi T32 904 98 = Xi T31 904 98 from w1617.x _ _ rfl)
  refine l_callV rfl rfl rfl (t_mo_askPlace hHT32 n (by first | assumption | exact (TK_FR hFT32 rfl (by assumption : TK S _))) (by first | assumption | exact (RNV_FR hFT32 rfl (by assumption : RNV S _))) (by first | assumption | exact (LXM_FR hFT32 rfl (by assumption : LXM S))) (by first | assumption | exact (ABV_FR hFT32 rfl (by assumption : ABV S))) (by first | assumption | omega) _) ?_
  rintro _ T33 ⟨hHT33, w1653, rfl, w1651, f307⟩
  have hFT33 : FR md_mo_asked S T33 := FR.tr hFT32 w1653 rfl
  show Rl _ _ _ _ _ [] _ _
  have y307_69 : Xi T33 904 69 = Xi T31 904 69 := ((show Xi T33 904 69 = Xi T32 904 69 from w1653.x _ _ rfl).trans ((show Xi T32 904 69 = Xi T31 904 69 from w1617.x _ _ rfl)))
  have y307_70 : Xi T33 904 70 = Xi T31 904 70 := ((show Xi T33 904 70 = Xi T32 904 70 from w1653.x _ _ rfl).trans ((show Xi T32 904 70 = Xi T31 904 70 from w1617.x _ _ rfl)))
  have y307_71 : Xi T33 904 71 = Xi T31 904 71 := ((show Xi T33 904 71 = Xi T32 904 71 from w1653.x _ _ rfl).trans ((show Xi T32 904 71 = Xi T31 904 71 from w1617.x _ _ rfl)))
  have y307_72 : Xi T33 904 72 = Xi T31 904 72 := ((show Xi T33 904 72 = Xi T32 904 72 from w1653.x _ _ rfl).trans ((show Xi T32 904 72 = Xi T31 904 72 from w1617.x _ _ rfl)))
  have y307_73 : Xi T33 904 73 = Xi T31 904 73 := ((show Xi T33 904 73 = Xi T32 904 73 from w1653.x _ _ rfl).trans ((show Xi T32 904 73 = Xi T31 904 73 from w1617.x _ _ rfl)))
  have y307_74 : Xi T33 904 74 = Xi T31 904 74 := ((show Xi T33 904 74 = Xi T32 904 74 from w1653.x _ _ rfl).trans ((show Xi T32 904 74 = Xi T31 904 74 from w1617.x _ _ rfl)))
  have y307_78 : Xi T33 904 78 = Xi T31 904 78 := ((show Xi T33 904 78 = Xi T32 904 78 from w1653.x _ _ rfl).trans ((show Xi T32 904 78 = Xi T31 904 78 from w1617.x _ _ rfl)))
  have y307_81 : Xi T33 904 81 = Xi T31 904 81 := ((show Xi T33 904 81 = Xi T32 904 81 from w1653.x _ _ rfl).trans ((show Xi T32 904 81 = Xi T31 904 81 from w1617.x _ _ rfl)))
  have y307_94 : Xi T33 904 94 = Xi T31 904 94 := ((show Xi T33 904 94 = Xi T32 904 94 from w1653.x _ _ rfl).trans ((show Xi T32 904 94 = Xi T31 904 94 from w1617.x _ _ rfl)))
  have y307_98 : Xi T33 904 98 = Xi T31 904 98 := ((show Xi T33 904 98 = Xi T32 904 98 from w1653.x _ _ rfl).trans ((show Xi T32 904 98 = Xi T31 904 98 from w1617.x _ _ rfl)))
  have y307_60 : Xi T33 904 60 = Xi T31 904 60 := ((show Xi T33 904 60 = Xi T32 904 60 from w1653.x _ _ rfl).trans ((show Xi T32 904 60 = Xi T31 904 60 from w1617.x _ _ rfl)))
  have y307_117 : Xi T33 904 117 = Xi T31 904 117 := ((show Xi T33 904 117 = Xi T32 904 117 from w1653.x _ _ rfl).trans ((show Xi T32 904 117 = Xi T31 904 117 from w1617.x _ _ rfl)))
  have F307 : Xi T33 904 106 = 0 → DOK T33 := fun q => dok_13 (by omega) (⟨ona_fw hFT33 rfl (O303 (by omega)), fun y => by have u := f307 q (by omega); rw [rnR_FR hFT32 rfl rfl] at u; rw [rnR_FR hFT33 rfl rfl, show Xi T33 904 74 = Xi T32 904 74 by omega]; exact u⟩)
  refine l_goto rfl rfl ?_
  refine l_return rfl rfl ?_
  have w1654 : 0 ≤ Xi T33 904 106 ∧ Xi T33 904 106 ≤ 9 := hHT33.c _ _
  exact ⟨hHT33, hFT33, rfl, (by assumption), (by first | exact fun q => by assumption | assumption | exact fun q => (RDT_FR hHT32 w1653 rfl rfl rfl (RDT_FR hHT31 w1617 rfl rfl rfl (by assumption : RDT T31))))⟩
set_option maxRecDepth 100000 in
set_option maxHeartbeats 8000000 in
theorem c313_mo_asked {S : sS} (hH : HI S) (n : Nat) (dd : Nat) (first : Int) (hfirst : 0 ≤ first ∧ first ≤ 5001) (hT : TK S n) (hv : RNV S n) (hM : LXM S) (hB : ABV S) (hC : DCM S) (hK : TXK S n) (hX : TXM S) (hq : SNQ S n) (hap : AP9 S n) (h94 : Xi S 904 94 ≤ 1668) (hRD : RDT S) (hPF : PF S) (hdt : Xi S 904 70 = 20 → first ≤ dd ∧ dd < n ∧ Xi S 907 dd = 46) (d : Nat) : ∀  (T34 : sS) (_ : HI T34) (_ : FR md_mo_asked S T34), (Xi T34 904 117 = Xi S 904 117) → (Xi T34 904 69 = Xi S 904 69) → (Xi T34 904 70 = Xi S 904 70) → (Xi T34 904 71 = Xi S 904 71) → (Xi T34 904 72 = Xi S 904 72) → (Xi T34 904 73 = Xi S 904 73) → (Xi T34 904 74 = Xi S 904 74) → (Xi T34 904 78 = Xi S 904 78) → (Xi T34 904 81 = Xi S 904 81) → (Xi T34 904 94 = Xi S 904 94) → (Xi T34 904 98 = Xi S 904 98) → (Xi T34 904 60 = Xi S 904 60) → (Xi T34 904 106 = 0) → (Xi T34 904 108 = 0) → (Xi T34 904 115 = -1) → (Xi T34 904 116 = -1) → (SNQ T34 n) → (RDT T34) → (KQL T34 S (Xi S 904 117)) → (Xi S 904 70 = 14) → Rl lay0 (d + 12) m_mo_asked 313 [(0, .ref 904)] [] T34 (Q_mo_asked S n dd first) := by
  have hF : FR md_mo_asked S S := FR.rf
  have w1 : 0 ≤ Xi S 904 106 ∧ Xi S 904 106 ≤ 9 := hH.c _ _
  have w2 : 0 ≤ Xi S 904 108 ∧ Xi S 904 108 ≤ 2600 := hH.c _ _
  have w3 : -1 ≤ Xi S 904 115 ∧ Xi S 904 115 ≤ 15 := hH.c _ _
  have w4 : -1 ≤ Xi S 904 116 ∧ Xi S 904 116 ≤ 15 := hH.c _ _
  have w5 : 0 ≤ Xi S 904 117 ∧ Xi S 904 117 ≤ 480 := hH.c _ _
  have w6 : 0 ≤ Xi S 904 23 ∧ Xi S 904 23 ≤ 24 := hH.c _ _
  have w7 : 0 ≤ Xi S 904 41 ∧ Xi S 904 41 ≤ 6 := hH.c _ _
  have w8 : -1 ≤ Xi S 904 60 ∧ Xi S 904 60 ≤ 23 := hH.c _ _
  have w9 : 0 ≤ Xi S 904 69 ∧ Xi S 904 69 ≤ 2600 := hH.c _ _
  have w10 : 0 ≤ Xi S 904 70 ∧ Xi S 904 70 ≤ 20 := hH.c _ _
  have w11 : 0 ≤ Xi S 904 71 ∧ Xi S 904 71 ≤ 2600 := hH.c _ _
  have w12 : 0 ≤ Xi S 904 72 ∧ Xi S 904 72 ≤ 2600 := hH.c _ _
  have w13 : 0 ≤ Xi S 904 73 ∧ Xi S 904 73 ≤ 5 := hH.c _ _
  have w14 : 0 ≤ Xi S 904 74 ∧ Xi S 904 74 ≤ 2600 := hH.c _ _
  have w15 : -2 ≤ Xi S 904 78 ∧ Xi S 904 78 ≤ 5010 := hH.c _ _
  have w16 : 0 ≤ Xi S 904 81 ∧ Xi S 904 81 ≤ 5010 := hH.c _ _
  have w17 : 0 ≤ Xi S 904 94 ∧ Xi S 904 94 ≤ 1700 := hH.c _ _
  have w18 : 0 ≤ Xi S 904 98 ∧ Xi S 904 98 ≤ 1700 := hH.c _ _
  have w19 : 0 ≤ Xi S 951 0 ∧ Xi S 951 0 ≤ 5010 := hH.c _ _
  have w20 : 0 ≤ Xi S 951 1 ∧ Xi S 951 1 ≤ 5010 := hH.c _ _
  have hn5 := hT.1
  have hc69 : 0 ≤ Xi S 904 69 ∧ Xi S 904 69 ≤ 2600 := hH.c _ _
  have hc70 : 0 ≤ Xi S 904 70 ∧ Xi S 904 70 ≤ 20 := hH.c _ _
  have hc23 : 0 ≤ Xi S 904 23 ∧ Xi S 904 23 ≤ 24 := hH.c _ _
  have hrf : ∀ r : Int, 0 ≤ r → r < Xi S 904 69 → Xi S 950 r.toNat + Xi S 951 r.toNat ≤ n ∧ 1 ≤ Xi S 951 r.toNat := fun r a b => hv r.toNat (by omega)
  have hq0 : KQL S S (Xi S 904 117) := KQL.rf
  intro T34 hHT34 hFT34 w1688 w1689 w1690 w1691 w1692 w1693 w1694 w1695 w1696 w1697 w1698 w1699 w1700 w1701 w1702 w1703 q20 r20 K20 w1704
  have w1705 : Xi T34 904 102 = Xi S 904 102 := hFT34.x _ _ rfl
  have w1706 : Xi T34 904 103 = Xi S 904 103 := hFT34.x _ _ rfl
  have w1707 : Xi T34 904 16 = Xi S 904 16 := hFT34.x _ _ rfl
  have w1708 : Xi T34 904 18 = Xi S 904 18 := hFT34.x _ _ rfl
  have w1709 : Xi T34 904 19 = Xi S 904 19 := hFT34.x _ _ rfl
  have w1710 : Xi T34 904 23 = Xi S 904 23 := hFT34.x _ _ rfl
  have w1711 : Xi T34 904 30 = Xi S 904 30 := hFT34.x _ _ rfl
  have w1712 : Xi T34 904 41 = Xi S 904 41 := hFT34.x _ _ rfl
  have w1713 : Xi T34 904 47 = Xi S 904 47 := hFT34.x _ _ rfl
  have w1714 : Xi T34 904 49 = Xi S 904 49 := hFT34.x _ _ rfl
  have w1715 : Xi T34 904 55 = Xi S 904 55 := hFT34.x _ _ rfl
  have w1716 : Xi T34 904 60 = Xi S 904 60 := hFT34.x _ _ rfl
  have w1717 : Xi T34 904 69 = Xi S 904 69 := hFT34.x _ _ rfl
  have w1718 : Xi T34 904 70 = Xi S 904 70 := hFT34.x _ _ rfl
  have w1719 : Xi T34 904 71 = Xi S 904 71 := hFT34.x _ _ rfl
  have w1720 : Xi T34 904 72 = Xi S 904 72 := hFT34.x _ _ rfl
  have w1721 : Xi T34 904 73 = Xi S 904 73 := hFT34.x _ _ rfl
  have w1722 : Xi T34 904 74 = Xi S 904 74 := hFT34.x _ _ rfl
  have w1723 : Xi T34 904 78 = Xi S 904 78 := hFT34.x _ _ rfl
  have w1724 : Xi T34 904 81 = Xi S 904 81 := hFT34.x _ _ rfl
  have w1725 : Xi T34 904 94 = Xi S 904 94 := hFT34.x _ _ rfl
  have w1726 : Xi T34 904 98 = Xi S 904 98 := hFT34.x _ _ rfl
  have w1727 : Xi T34 951 0 = Xi S 951 0 := hFT34.x _ _ rfl
  have w1728 : Xi T34 951 1 = Xi S 951 1 := hFT34.x _ _ rfl
  have w1729 : 0 ≤ Xi T34 904 106 ∧ Xi T34 904 106 ≤ 9 := hHT34.c _ _
  have w1730 : 0 ≤ Xi T34 904 108 ∧ Xi T34 904 108 ≤ 2600 := hHT34.c _ _
  have w1731 : -1 ≤ Xi T34 904 115 ∧ Xi T34 904 115 ≤ 15 := hHT34.c _ _
  have w1732 : -1 ≤ Xi T34 904 116 ∧ Xi T34 904 116 ≤ 15 := hHT34.c _ _
  have w1733 : 0 ≤ Xi T34 904 117 ∧ Xi T34 904 117 ≤ 480 := hHT34.c _ _
  have w1734 : -1 ≤ Xi T34 904 60 ∧ Xi T34 904 60 ≤ 23 := hHT34.c _ _
  have w1735 : 0 ≤ Xi T34 904 69 ∧ Xi T34 904 69 ≤ 2600 := hHT34.c _ _
  have w1736 : 0 ≤ Xi T34 904 70 ∧ Xi T34 904 70 ≤ 20 := hHT34.c _ _
  have w1737 : 0 ≤ Xi T34 904 71 ∧ Xi T34 904 71 ≤ 2600 := hHT34.c _ _
  have w1738 : 0 ≤ Xi T34 904 72 ∧ Xi T34 904 72 ≤ 2600 := hHT34.c _ _
  have w1739 : 0 ≤ Xi T34 904 73 ∧ Xi T34 904 73 ≤ 5 := hHT34.c _ _
  have w1740 : 0 ≤ Xi T34 904 74 ∧ Xi T34 904 74 ≤ 2600 := hHT34.c _ _
  have w1741 : -2 ≤ Xi T34 904 78 ∧ Xi T34 904 78 ≤ 5010 := hHT34.c _ _
  have w1742 : 0 ≤ Xi T34 904 81 ∧ Xi T34 904 81 ≤ 5010 := hHT34.c _ _
  have w1743 : 0 ≤ Xi T34 904 94 ∧ Xi T34 904 94 ≤ 1700 := hHT34.c _ _
  have w1744 : 0 ≤ Xi T34 904 98 ∧ Xi T34 904 98 ≤ 1700 := hHT34.c _ _
  refine l_aload_n rfl rfl ?_
  have s313 := q20.2.2.2.2.2.1 (by omega)
  have x313 := q20.2.2.2.2.2.2.1 (by omega)
  have y313 := q20.2.2.2.2.2.2.2.1 (by omega)
  have z313 : Xi T34 904 74 < Xi T34 904 69 := q20.2.2.2.2.2.2.2.2.1 (by omega)
  have w1750 : 0 ≤ Xi T34 904 142 ∧ Xi T34 904 142 ≤ 4 := hHT34.c _ _
  have w1751 : 0 ≤ Xi T34 904 19 ∧ Xi T34 904 19 ≤ 24 := hHT34.c _ _
  refine l_callV rfl rfl rfl (t_mo_askWay hHT34 n (by first | assumption | exact (TK_FR hFT34 rfl (by assumption : TK S _))) (by first | assumption | exact (RNV_FR hFT34 rfl (by assumption : RNV S _))) (by first | assumption | exact (LXM_FR hFT34 rfl (by assumption : LXM S))) (by first | assumption | exact fun k hk => absurd hk (by omega) | exact (by assumption : NWV T34)) (by first | assumption | exact (ABV_FR hFT34 rfl (by assumption : ABV S))) (by first | assumption | omega) (by first | assumption | omega) (by first | assumption | omega) (by first | assumption | omega) (by first | assumption | omega) _) ?_
  rintro _ T35 ⟨hHT35, w1764, rfl, f314⟩
  have hFT35 : FR md_mo_asked S T35 := FR.tr hFT34 w1764 rfl
  show Rl _ _ _ _ _ [] _ _
  have y314_69 : Xi T35 904 69 = Xi T34 904 69 := ((show Xi T35 904 69 = Xi T34 904 69 from w1764.x _ _ rfl))
  have y314_70 : Xi T35 904 70 = Xi T34 904 70 := ((show Xi T35 904 70 = Xi T34 904 70 from w1764.x _ _ rfl))
  have y314_71 : Xi T35 904 71 = Xi T34 904 71 := ((show Xi T35 904 71 = Xi T34 904 71 from w1764.x _ _ rfl))
  have y314_72 : Xi T35 904 72 = Xi T34 904 72 := ((show Xi T35 904 72 = Xi T34 904 72 from w1764.x _ _ rfl))
  have y314_73 : Xi T35 904 73 = Xi T34 904 73 := ((show Xi T35 904 73 = Xi T34 904 73 from w1764.x _ _ rfl))
  have y314_74 : Xi T35 904 74 = Xi T34 904 74 := ((show Xi T35 904 74 = Xi T34 904 74 from w1764.x _ _ rfl))
  have y314_78 : Xi T35 904 78 = Xi T34 904 78 := ((show Xi T35 904 78 = Xi T34 904 78 from w1764.x _ _ rfl))
  have y314_81 : Xi T35 904 81 = Xi T34 904 81 := ((show Xi T35 904 81 = Xi T34 904 81 from w1764.x _ _ rfl))
  have y314_94 : Xi T35 904 94 = Xi T34 904 94 := ((show Xi T35 904 94 = Xi T34 904 94 from w1764.x _ _ rfl))
  have y314_98 : Xi T35 904 98 = Xi T34 904 98 := ((show Xi T35 904 98 = Xi T34 904 98 from w1764.x _ _ rfl))
  have y314_60 : Xi T35 904 60 = Xi T34 904 60 := ((show Xi T35 904 60 = Xi T34 904 60 from w1764.x _ _ rfl))
  have y314_117 : Xi T35 904 117 = Xi T34 904 117 := ((show Xi T35 904 117 = Xi T34 904 117 from w1764.x _ _ rfl))
  have u314_19 : Xi T35 904 19 = Xi S 904 19 := hFT35.x 904 19 rfl
  have F314 : Xi T35 904 106 = 0 → DOK T35 := fun q => dok_14 (by omega) (by have t := f314 q; rw [rnR_FR hFT34 rfl rfl, rnR_FR hFT34 rfl rfl, rnR_FR hFT34 rfl rfl, (hFT34.cx 951 rfl _).1, hFT34.x 904 19 rfl] at t; unfold D14; rw [rnR_FR hFT35 rfl rfl, rnR_FR hFT35 rfl rfl, rnR_FR hFT35 rfl rfl, (hFT35.cx 951 rfl _).1, u314_19, show Xi T35 904 71 = Xi T34 904 71 by omega, show Xi T35 904 78 = Xi T34 904 78 by omega, show Xi T35 904 74 = Xi T34 904 74 by omega]; exact t)
  refine l_goto rfl rfl ?_
  refine l_return rfl rfl ?_
  have w1765 : 0 ≤ Xi T35 904 106 ∧ Xi T35 904 106 ≤ 9 := hHT35.c _ _
  exact ⟨hHT35, hFT35, rfl, (by assumption), (by first | exact fun q => by assumption | assumption | exact fun q => (RDT_FR hHT34 w1764 rfl rfl rfl (by assumption : RDT T34)))⟩
set_option maxRecDepth 100000 in
set_option maxHeartbeats 8000000 in
theorem c320_mo_asked {S : sS} (hH : HI S) (n : Nat) (dd : Nat) (first : Int) (hfirst : 0 ≤ first ∧ first ≤ 5001) (hT : TK S n) (hv : RNV S n) (hM : LXM S) (hB : ABV S) (hC : DCM S) (hK : TXK S n) (hX : TXM S) (hq : SNQ S n) (hap : AP9 S n) (h94 : Xi S 904 94 ≤ 1668) (hRD : RDT S) (hPF : PF S) (hdt : Xi S 904 70 = 20 → first ≤ dd ∧ dd < n ∧ Xi S 907 dd = 46) (d : Nat) : ∀  (T36 : sS) (_ : HI T36) (_ : FR md_mo_asked S T36), (Xi T36 904 117 = Xi S 904 117) → (Xi T36 904 69 = Xi S 904 69) → (Xi T36 904 70 = Xi S 904 70) → (Xi T36 904 71 = Xi S 904 71) → (Xi T36 904 72 = Xi S 904 72) → (Xi T36 904 73 = Xi S 904 73) → (Xi T36 904 74 = Xi S 904 74) → (Xi T36 904 78 = Xi S 904 78) → (Xi T36 904 81 = Xi S 904 81) → (Xi T36 904 94 = Xi S 904 94) → (Xi T36 904 98 = Xi S 904 98) → (Xi T36 904 60 = Xi S 904 60) → (Xi T36 904 106 = 0) → (Xi T36 904 108 = 0) → (Xi T36 904 115 = -1) → (Xi T36 904 116 = -1) → (SNQ T36 n) → (RDT T36) → (KQL T36 S (Xi S 904 117)) → (15 ≤ Xi S 904 70 ∧ Xi S 904 70 ≤ 16) → Rl lay0 (d + 12) m_mo_asked 320 [(0, .ref 904)] [] T36 (Q_mo_asked S n dd first) := by
  have hF : FR md_mo_asked S S := FR.rf
  have w1 : 0 ≤ Xi S 904 106 ∧ Xi S 904 106 ≤ 9 := hH.c _ _
  have w2 : 0 ≤ Xi S 904 108 ∧ Xi S 904 108 ≤ 2600 := hH.c _ _
  have w3 : -1 ≤ Xi S 904 115 ∧ Xi S 904 115 ≤ 15 := hH.c _ _
  have w4 : -1 ≤ Xi S 904 116 ∧ Xi S 904 116 ≤ 15 := hH.c _ _
  have w5 : 0 ≤ Xi S 904 117 ∧ Xi S 904 117 ≤ 480 := hH.c _ _
  have w6 : 0 ≤ Xi S 904 23 ∧ Xi S 904 23 ≤ 24 := hH.c _ _
  have w7 : 0 ≤ Xi S 904 41 ∧ Xi S 904 41 ≤ 6 := hH.c _ _
  have w8 : -1 ≤ Xi S 904 60 ∧ Xi S 904 60 ≤ 23 := hH.c _ _
  have w9 : 0 ≤ Xi S 904 69 ∧ Xi S 904 69 ≤ 2600 := hH.c _ _
  have w10 : 0 ≤ Xi S 904 70 ∧ Xi S 904 70 ≤ 20 := hH.c _ _
  have w11 : 0 ≤ Xi S 904 71 ∧ Xi S 904 71 ≤ 2600 := hH.c _ _
  have w12 : 0 ≤ Xi S 904 72 ∧ Xi S 904 72 ≤ 2600 := hH.c _ _
  have w13 : 0 ≤ Xi S 904 73 ∧ Xi S 904 73 ≤ 5 := hH.c _ _
  have w14 : 0 ≤ Xi S 904 74 ∧ Xi S 904 74 ≤ 2600 := hH.c _ _
  have w15 : -2 ≤ Xi S 904 78 ∧ Xi S 904 78 ≤ 5010 := hH.c _ _
  have w16 : 0 ≤ Xi S 904 81 ∧ Xi S 904 81 ≤ 5010 := hH.c _ _
  have w17 : 0 ≤ Xi S 904 94 ∧ Xi S 904 94 ≤ 1700 := hH.c _ _
  have w18 : 0 ≤ Xi S 904 98 ∧ Xi S 904 98 ≤ 1700 := hH.c _ _
  have w19 : 0 ≤ Xi S 951 0 ∧ Xi S 951 0 ≤ 5010 := hH.c _ _
  have w20 : 0 ≤ Xi S 951 1 ∧ Xi S 951 1 ≤ 5010 := hH.c _ _
  have hn5 := hT.1
  have hc69 : 0 ≤ Xi S 904 69 ∧ Xi S 904 69 ≤ 2600 := hH.c _ _
  have hc70 : 0 ≤ Xi S 904 70 ∧ Xi S 904 70 ≤ 20 := hH.c _ _
  have hc23 : 0 ≤ Xi S 904 23 ∧ Xi S 904 23 ≤ 24 := hH.c _ _
  have hrf : ∀ r : Int, 0 ≤ r → r < Xi S 904 69 → Xi S 950 r.toNat + Xi S 951 r.toNat ≤ n ∧ 1 ≤ Xi S 951 r.toNat := fun r a b => hv r.toNat (by omega)
  have hq0 : KQL S S (Xi S 904 117) := KQL.rf
  intro T36 hHT36 hFT36 w1798 w1799 w1800 w1801 w1802 w1803 w1804 w1805 w1806 w1807 w1808 w1809 w1810 w1811 w1812 w1813 q20 r20 K20 w1814
  have w1815 : Xi T36 904 102 = Xi S 904 102 := hFT36.x _ _ rfl
  have w1816 : Xi T36 904 103 = Xi S 904 103 := hFT36.x _ _ rfl
  have w1817 : Xi T36 904 16 = Xi S 904 16 := hFT36.x _ _ rfl
  have w1818 : Xi T36 904 18 = Xi S 904 18 := hFT36.x _ _ rfl
  have w1819 : Xi T36 904 19 = Xi S 904 19 := hFT36.x _ _ rfl
  have w1820 : Xi T36 904 23 = Xi S 904 23 := hFT36.x _ _ rfl
  have w1821 : Xi T36 904 30 = Xi S 904 30 := hFT36.x _ _ rfl
  have w1822 : Xi T36 904 41 = Xi S 904 41 := hFT36.x _ _ rfl
  have w1823 : Xi T36 904 47 = Xi S 904 47 := hFT36.x _ _ rfl
  have w1824 : Xi T36 904 49 = Xi S 904 49 := hFT36.x _ _ rfl
  have w1825 : Xi T36 904 55 = Xi S 904 55 := hFT36.x _ _ rfl
  have w1826 : Xi T36 904 60 = Xi S 904 60 := hFT36.x _ _ rfl
  have w1827 : Xi T36 904 69 = Xi S 904 69 := hFT36.x _ _ rfl
  have w1828 : Xi T36 904 70 = Xi S 904 70 := hFT36.x _ _ rfl
  have w1829 : Xi T36 904 71 = Xi S 904 71 := hFT36.x _ _ rfl
  have w1830 : Xi T36 904 72 = Xi S 904 72 := hFT36.x _ _ rfl
  have w1831 : Xi T36 904 73 = Xi S 904 73 := hFT36.x _ _ rfl
  have w1832 : Xi T36 904 74 = Xi S 904 74 := hFT36.x _ _ rfl
  have w1833 : Xi T36 904 78 = Xi S 904 78 := hFT36.x _ _ rfl
  have w1834 : Xi T36 904 81 = Xi S 904 81 := hFT36.x _ _ rfl
  have w1835 : Xi T36 904 94 = Xi S 904 94 := hFT36.x _ _ rfl
  have w1836 : Xi T36 904 98 = Xi S 904 98 := hFT36.x _ _ rfl
  have w1837 : Xi T36 951 0 = Xi S 951 0 := hFT36.x _ _ rfl
  have w1838 : Xi T36 951 1 = Xi S 951 1 := hFT36.x _ _ rfl
  have w1839 : 0 ≤ Xi T36 904 106 ∧ Xi T36 904 106 ≤ 9 := hHT36.c _ _
  have w1840 : 0 ≤ Xi T36 904 108 ∧ Xi T36 904 108 ≤ 2600 := hHT36.c _ _
  have w1841 : -1 ≤ Xi T36 904 115 ∧ Xi T36 904 115 ≤ 15 := hHT36.c _ _
  have w1842 : -1 ≤ Xi T36 904 116 ∧ Xi T36 904 116 ≤ 15 := hHT36.c _ _
  have w1843 : 0 ≤ Xi T36 904 117 ∧ Xi T36 904 117 ≤ 480 := hHT36.c _ _
  have w1844 : -1 ≤ Xi T36 904 60 ∧ Xi T36 904 60 ≤ 23 := hHT36.c _ _
  have w1845 : 0 ≤ Xi T36 904 69 ∧ Xi T36 904 69 ≤ 2600 := hHT36.c _ _
  have w1846 : 0 ≤ Xi T36 904 70 ∧ Xi T36 904 70 ≤ 20 := hHT36.c _ _
  have w1847 : 0 ≤ Xi T36 904 71 ∧ Xi T36 904 71 ≤ 2600 := hHT36.c _ _
  have w1848 : 0 ≤ Xi T36 904 72 ∧ Xi T36 904 72 ≤ 2600 := hHT36.c _ _
  have w1849 : 0 ≤ Xi T36 904 73 ∧ Xi T36 904 73 ≤ 5 := hHT36.c _ _
  have w1850 : 0 ≤ Xi T36 904 74 ∧ Xi T36 904 74 ≤ 2600 := hHT36.c _ _
  have w1851 : -2 ≤ Xi T36 904 78 ∧ Xi T36 904 78 ≤ 5010 := hHT36.c _ _
  have w1852 : 0 ≤ Xi T36 904 81 ∧ Xi T36 904 81 ≤ 5010 := hHT36.c _ _
  have w1853 : 0 ≤ Xi T36 904 94 ∧ Xi T36 904 94 ≤ 1700 := hHT36.c _ _
  have w1854 : 0 ≤ Xi T36 904 98 ∧ Xi T36 904 98 ≤ 1700 := hHT36.c _ _
  refine l_aload_n rfl rfl ?_
  have s320 := q20.2.2.2.2.2.1 (by omega)
  have x320 := q20.2.2.2.2.2.2.1 (by omega)
  have y320 := q20.2.2.2.2.2.2.2.1 (by omega)
  have w1860 : 0 ≤ Xi T36 904 142 ∧ Xi T36 904 142 ≤ 4 := hHT36.c _ _
  have w1861 : 0 ≤ Xi T36 904 16 ∧ Xi T36 904 16 ≤ 16 := hHT36.c _ _
  have w1862 : 0 ≤ Xi T36 904 30 ∧ Xi T36 904 30 ≤ 64 := hHT36.c _ _
  refine l_callV rfl rfl rfl (t_mo_askFifteen hHT36 n (by first | assumption | exact (TK_FR hFT36 rfl (by assumption : TK S _))) (by first | assumption | exact (RNV_FR hFT36 rfl (by assumption : RNV S _))) (by first | assumption | exact (LXM_FR hFT36 rfl (by assumption : LXM S))) (by first | assumption | exact fun k hk => absurd hk (by omega) | exact (by assumption : NWV T36)) (by first | assumption | exact (ABV_FR hFT36 rfl (by assumption : ABV S))) (by first | assumption | exact (DCM_FR hFT36 rfl (by assumption : DCM S))) (by first | assumption | omega) (by first | assumption | omega) (by first | assumption | omega) (by first | assumption | omega) _) ?_
  rintro _ T37 ⟨hHT37, w1875, rfl, p1, p2, p3, p4⟩
  have hFT37 : FR md_mo_asked S T37 := FR.tr hFT36 w1875 rfl
  show Rl _ _ _ _ _ [] _ _
  have y321_69 : Xi T37 904 69 = Xi T36 904 69 := ((show Xi T37 904 69 = Xi T36 904 69 from w1875.x _ _ rfl))
  have y321_70 : Xi T37 904 70 = Xi T36 904 70 := ((show Xi T37 904 70 = Xi T36 904 70 from w1875.x _ _ rfl))
  have y321_71 : Xi T37 904 71 = Xi T36 904 71 := ((show Xi T37 904 71 = Xi T36 904 71 from w1875.x _ _ rfl))
  have y321_72 : Xi T37 904 72 = Xi T36 904 72 := ((show Xi T37 904 72 = Xi T36 904 72 from w1875.x _ _ rfl))
  have y321_73 : Xi T37 904 73 = Xi T36 904 73 := ((show Xi T37 904 73 = Xi T36 904 73 from w1875.x _ _ rfl))
  have y321_74 : Xi T37 904 74 = Xi T36 904 74 := ((show Xi T37 904 74 = Xi T36 904 74 from w1875.x _ _ rfl))
  have y321_78 : Xi T37 904 78 = Xi T36 904 78 := ((show Xi T37 904 78 = Xi T36 904 78 from w1875.x _ _ rfl))
  have y321_81 : Xi T37 904 81 = Xi T36 904 81 := ((show Xi T37 904 81 = Xi T36 904 81 from w1875.x _ _ rfl))
  have y321_94 : Xi T37 904 94 = Xi T36 904 94 := ((show Xi T37 904 94 = Xi T36 904 94 from w1875.x _ _ rfl))
  have y321_98 : Xi T37 904 98 = Xi T36 904 98 := ((show Xi T37 904 98 = Xi T36 904 98 from w1875.x _ _ rfl))
  have y321_60 : Xi T37 904 60 = Xi T36 904 60 := ((show Xi T37 904 60 = Xi T36 904 60 from w1875.x _ _ rfl))
  have y321_117 : Xi T37 904 117 = Xi T36 904 117 := ((show Xi T37 904 117 = Xi T36 904 117 from w1875.x _ _ rfl))
  have F321 : Xi T37 904 106 = 0 → DOK T37 := fun q => dok_15 (by omega) (d15_i (by assumption : FR md_mo_askFifteen T36 T37) rfl (p1 q) (p2 q) (p3 q) (p4 q))
  refine l_goto rfl rfl ?_
  refine l_return rfl rfl ?_
  have w1876 : 0 ≤ Xi T37 904 106 ∧ Xi T37 904 106 ≤ 9 := hHT37.c _ _
  exact ⟨hHT37, hFT37, rfl, (by assumption), (by first | exact fun q => by assumption | assumption | exact fun q => (RDT_FR hHT36 w1875 rfl rfl rfl (by assumption : RDT T36)))⟩



