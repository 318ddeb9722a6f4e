/-! SAFETY: commands understood -/
def KCM (S T : sS) : Prop := ∀ i : Nat, (i : Int) < Xi S 882 3 → Xi T 885 i = Xi S 885 i ∧ Xi T 886 i = Xi S 886 i
theorem KCM.rf {S : sS} : KCM S S := fun _ _ => ⟨rfl, rfl⟩
theorem kcm_w5 {S T U : sS} {a : Int} {v : Int32} (e : U = uI T 885 a.toNat v) (h : KCM S T) (h0 : 0 ≤ Xi S 882 3) (ha : Xi S 882 3 ≤ a) : KCM S U := fun i hi => by
  rw [e, Xi_ne (by omega), Xi_ne (by omega)]; exact h i hi
theorem kcm_w6 {S T U : sS} {a : Int} {v : Int32} (e : U = uI T 886 a.toNat v) (h : KCM S T) (h0 : 0 ≤ Xi S 882 3) (ha : Xi S 882 3 ≤ a) : KCM S U := fun i hi => by
  rw [e, Xi_ne (by omega), Xi_ne (by omega)]; exact h i hi
theorem kcm_f {l : List rec} {S T U : sS} (h : FR l T U) (e : kdis l [(885, 887)] = true) (hk : KCM S T) : KCM S U := fun i hi => by
  have k := h.smk e
  rw [k.x 885 rfl, k.x 886 rfl]; exact hk i hi
theorem WI_c {l : List rec} {S T : sS} (hH : HI S) (h : FR l S T) (e1 : mdf l 1 3 = false) (e2 : dL l = true) (e3 : (kdis l kX && !(mdf l 20 1)) = true) (e4 : (kdis l kG && (!(mdf l 20 1) && (!(mdf l 246 8) && !(mdf l 246 5)))) = true) (e5 : kdis l [(5, 6), (11, 14)] = true) (e6 : (kdis l [(5, 6), (248, 272)] && !(mdf l 246 2)) = true) (e8 : kdis l [(8, 9)] = true) (e9 : kdis l [(19, 20), (5, 6)] = true) (hC : CMD T) (hW : WI S) : WI T := by
  obtain ⟨w1, w2, w3, w4, _, w6, w7, w8⟩ := hW
  have k5 := h.smk e5
  have e6b := e6
  simp only [Bool.and_eq_true, Bool.not_eq_true'] at e6b
  have e4b := e4
  simp only [Bool.and_eq_true, Bool.not_eq_true'] at e4b
  refine ⟨LEX_FR h e1 e2 w1, TX_FR h e3 w2, DEF_FR hH h e4 e5 w3, RUL_FR hH h e4 e6 w4, hC, AK_FR h e9 w6, ?_, fun t => ?_⟩
  · unfold CC
    rw [h.x 246 5 e4b.2.2.2, h.x 246 2 e6b.2, k5.x 5 rfl]
    exact w7
  · rw [vals_fr (fun j => (h.smk e8).x 8 rfl j) (k5.x 5 rfl 4)]
    exact w8 t
theorem CMD_add {S P U : sS} {a : Int} (hH : HI S) (hC : CMD S) (hk : KCM S P) (x3 : Xi P 882 3 = Xi S 882 3) (x883 : ∀ i, Xi P 883 i = Xi S 883 i) (f5 : ∀ j, Xi U 5 j = Xi S 5 j) (f19 : ∀ j, Xi U 19 j = Xi S 19 j) (f85 : ∀ j, Xi U 885 j = Xi P 885 j) (f86 : ∀ j, Xi U 886 j = Xi P 886 j) (u3 : Xi U 882 3 = Xi P 882 3 + 1) (ua : Xi U 883 (Xi P 882 3).toNat = a) (uo : ∀ i : Nat, (i : Int) < Xi P 882 3 → Xi U 883 i = Xi P 883 i) (ha : a < Xi S 5 8) (h1 : Xi P 885 (Xi P 882 3).toNat = -1 → Xi S 19 a.toNat = -1) (h2 : Xi S 19 a.toNat = -2 → Xi P 886 (Xi P 882 3).toNat = -2) : CMD U := by
  have h20 : 0 ≤ Xi S 882 3 ∧ Xi S 882 3 ≤ 20 := hH.c _ _
  intro i hi
  rw [u3] at hi
  rw [f85, f86, f5]
  by_cases e : (i : Int) < Xi P 882 3
  · rw [uo i e, x883, f19, (hk i (by omega)).1, (hk i (by omega)).2]
    exact hC i (by omega)
  · rw [show i = (Xi P 882 3).toNat by omega, ua, f19]
    exact ⟨ha, h1, h2⟩

