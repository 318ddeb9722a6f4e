/-! THE CELLS MOVED: the law's loop speaks of the cells by other numbers than those in which they were made: the tables that the class got behind d00b5ec (cells 902 to 919 as they are made) stand behind all others (996 ..), all else keeps the number that it had there -/
def piC (k : Nat) : Nat := bif Nat.blt k 902 then k else bif Nat.blt k 996 then k + 18 else bif Nat.blt k 1014 then k - 94 else k
def roC (k : Nat) : Nat := bif Nat.blt k 902 then k else bif Nat.blt k 920 then k + 94 else bif Nat.blt k 1014 then k - 18 else k
theorem pblt_t {a b : Nat} (h : a < b) : Nat.blt a b = true := Nat.ble_eq_true_of_le h
theorem pblt_f {a b : Nat} (h : ¬ a < b) : Nat.blt a b = false := by
  cases e : Nat.blt a b with
  | false => rfl
  | true => exact absurd (Nat.le_of_ble_eq_true e) h
theorem piC_c (k : Nat) : (k < 902 ∧ piC k = k) ∨ (902 ≤ k ∧ k < 996 ∧ piC k = k + 18) ∨ (996 ≤ k ∧ k < 1014 ∧ piC k = k - 94) ∨ (1014 ≤ k ∧ piC k = k) := by
  unfold piC
  by_cases a : k < 902
  · rw [pblt_t a]; exact Or.inl ⟨a, rfl⟩
  rw [pblt_f a]
  by_cases b : k < 996
  · rw [pblt_t b]; exact Or.inr (Or.inl ⟨by omega, b, rfl⟩)
  rw [pblt_f b]
  by_cases c : k < 1014
  · rw [pblt_t c]; exact Or.inr (Or.inr (Or.inl ⟨by omega, c, rfl⟩))
  rw [pblt_f c]
  exact Or.inr (Or.inr (Or.inr ⟨by omega, rfl⟩))
theorem roC_c (k : Nat) : (k < 902 ∧ roC k = k) ∨ (902 ≤ k ∧ k < 920 ∧ roC k = k + 94) ∨ (920 ≤ k ∧ k < 1014 ∧ roC k = k - 18) ∨ (1014 ≤ k ∧ roC k = k) := by
  unfold roC
  by_cases a : k < 902
  · rw [pblt_t a]; exact Or.inl ⟨a, rfl⟩
  rw [pblt_f a]
  by_cases b : k < 920
  · rw [pblt_t b]; exact Or.inr (Or.inl ⟨by omega, b, rfl⟩)
  rw [pblt_f b]
  by_cases c : k < 1014
  · rw [pblt_t c]; exact Or.inr (Or.inr (Or.inl ⟨by omega, c, rfl⟩))
  rw [pblt_f c]
  exact Or.inr (Or.inr (Or.inr ⟨by omega, rfl⟩))
theorem pi_ro (k : Nat) : piC (roC k) = k := by
  have a := roC_c k
  have b := piC_c (roC k)
  omega
theorem ro_pi (k : Nat) : roC (piC k) = k := by
  have a := piC_c k
  have b := roC_c (piC k)
  omega
theorem pi_in {k : Nat} (h : k < 1014) : piC k < 1014 := by
  have a := piC_c k
  omega
theorem ro_in {k : Nat} (h : k < 1014) : roC k < 1014 := by
  have a := roC_c k
  omega
theorem pi_out {k : Nat} (h : 1014 ≤ k) : piC k = k := by
  have a := piC_c k
  omega
theorem pi_inj {a b : Nat} (h : piC a = piC b) : a = b := by rw [← ro_pi a, ← ro_pi b, h]
/-- the state, by the other numbers -/
def pS (S : sS) : sS := (fun k j => S.1 (piC k) j, fun k j => S.2.1 (piC k) j, fun k j => (S.2.2 (piC k) j).map roC)
section PM
variable {p : Program} {l : Launch} {e : Env} {R : Room} {s : State} {m : MethodId} {args : Array Value} {below : List Frame} {meth : Method} {c : Code} {Q : State → Prop} {H : Heap} {locs : List Loc} {nL cells slots pc : Nat} {lv lv1 : List (Nat × Value)} {st st1 : List Value}
variable {D : va_G} {lay lay1 : Nat → Nat × Nat} {ad ca : Nat → Nat} {S : sS}
theorem map_ro (r : Option Nat) : (r.map roC).map (fun k => ad (piC k)) = r.map ad := by
  cases r with
  | none => rfl
  | some a => show some (ad (piC (roC a))) = some (ad a); rw [pi_ro]
theorem sV_ro (ty : FieldType) (i : Int32) (j : Int64) (r : Option Nat) : sV (fun k => ad (piC k)) ty i j (r.map roC) = sV ad ty i j r := by
  unfold sV
  rw [map_ro]
theorem sE_pi {k : Nat} (hl : lay1 k = lay (piC k)) : sE lay1 (fun k => ad (piC k)) ca (pS S) k = sE lay ad ca S (piC k) := by
  unfold sE
  rw [hl]
  have o : ∀ ci, sO (fun k => ad (piC k)) (pS S) ci k = sO ad S ci (piC k) := fun ci => by
    unfold sO
    refine List.map_congr_left (fun j _ => ?_)
    exact sV_ro _ _ _ _
  have r : (fun i => ((pS S).2.2 k i).map (fun k => ad (piC k))) = (fun i => (S.2.2 (piC k) i).map ad) := funext fun i => map_ro _
  simp only [o, r]
  rfl
theorem sA_pi {sz : Nat} : sA 1014 (fun k => ad (piC k)) sz = sA 1014 ad sz := by
  funext q
  refine propext ⟨fun h => h.elim (fun ⟨k, hk, e⟩ => Or.inl ⟨piC k, pi_in hk, e⟩) Or.inr, fun h => h.elim (fun ⟨k, hk, e⟩ => Or.inl ⟨roC k, ro_in hk, ?_⟩) Or.inr⟩
  show q = ad (piC (roC k))
  rw [pi_ro]
  exact e
theorem sW_pi (hl : ∀ k, k < 1014 → lay1 k = lay (piC k)) {k : Nat} {q : Nat × va_E} (h : (sW lay1 1014 (fun k => ad (piC k)) ca (pS S))[k]? = some q) : k < 1014 ∧ (sW lay 1014 ad ca S)[piC k]? = some q := by
  have hk : k < 1014 := by
    have := (List.getElem?_eq_some_iff.mp h).1
    unfold sW at this
    simpa using this
  refine ⟨hk, ?_⟩
  rw [sW_at hk] at h
  rw [sW_at (pi_in hk), ← h, sE_pi (hl k hk)]
theorem sB_pi (hl : ∀ k, k < 1014 → lay1 k = lay (piC k)) (B : sB D lay 1014 ad ca S s H locs) : sB D lay1 1014 (fun k => ad (piC k)) ca (pS S) s H locs := by
  obtain ⟨b1, b2, b3, b4, b5, b6⟩ := B
  refine ⟨b1, fun k q h => b2 _ q (sW_pi hl h).2, ⟨fun i j x y hi hj e => pi_inj (b3.1 _ _ x y (sW_pi hl hi).2 (sW_pi hl hj).2 e), fun k q h => by rw [sA_pi]; exact b3.2 _ q (sW_pi hl h).2⟩, by rw [sA_pi]; exact b4, b5, ?_⟩
  rw [sA_pi]
  obtain ⟨c1, c2, c3⟩ := b6
  refine ⟨c1, c2, fun i q hi => ?_⟩
  have t := c3 i q hi
  show vk_R q.1 q.2.1 q.2.2.1 (ad (piC (SB + i))) s ∧ va_O "java/lang/String" (ad (piC (SB + i))) _ s s.heap ∧ va_OF "java/lang/String" "coder" "B" (.int 0) (ad (piC (SB + i))) _ s s.heap ∧ va_OF "java/lang/String" "value" "[B" (.ref (ad (piC (SV + i)))) (ad (piC (SB + i))) _ s s.heap ∧ va_T .byte (ad (piC (SV + i))) q.2.2.2.length (fun j => .int (q.2.2.2.getD j 0)) _ s s.heap
  rw [pi_out (k := SB + i) (by unfold SB; omega), pi_out (k := SV + i) (by unfold SV; omega)]
  exact t
/-- from here on the cells have the other numbers -/
theorem OkP_pi (hl : ∀ k, k < 1014 → lay1 k = lay (piC k)) (hlv : lv1.map (trL (fun k => ad (piC k))) = lv.map (trL ad)) (hst : st1.map (trV (fun k => ad (piC k))) = st.map (trV ad)) (h : OkP p l e R s m args below meth c D lay1 1014 (fun k => ad (piC k)) ca nL cells slots Q pc lv1 st1 (pS S)) : OkP p l e R s m args below meth c D lay 1014 ad ca nL cells slots Q pc lv st S := by
  intro ls H locs h1 B
  rw [← hlv] at h1
  rw [← hst]
  exact h ls H locs h1 (sB_pi hl B)
end PM
