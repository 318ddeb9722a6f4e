/-! constructors by depth; what they answer, the JVM answers -/
def evA (lay : Nat → Nat × Nat) (F : Nat) : Nat → calA
  | 0, _, _, _, _, _ => none
  | d + 1, q, av, S, n, ss => bif Nat.ble (wds av) q.2.2.1 then (match runA lay (fLs q.2.2.2.2.1) (cLs q.2.2.2.2.1) (kLs q.2.2.2.2.1) (cCs q.2.2.2.2.1) (kIs q.2.2.2.2.1) q.2.2.2.2.1 q.2.2.1 none false 0 (fun _ => 0) (fun n => evd (layN lay n) F d) (evA lay F d) q.2.2.2.2.2 F n ss 0 (lv_args 0 av) [] S with
    | some (r, S1, n1, ss1) => bif Nat.ble n n1 && (Nat.ble ss ss1 && Nat.ble n1 1900) then some (r, S1, n1, ss1) else none
    | none => none) else none
section EA
variable {l : Launch} {D : va_G} {lay : Nat → Nat × Nat} {h0 : Nat} {ad ca : Nat → Nat}
theorem evA_ok (had : ∀ k, k < 1900 → ad k = h0 + k) {F : Nat} : ∀ (d : Nat) (q : mT), MOkA q → ∀ (av : List Value) (S : sS) (n ss : Nat) (r : Option Value) (S1 : sS) (n1 ss1 : Nat), n ≤ 1900 → evA lay F d q av S n ss = some (r, S1, n1, ss1) → sMA l D lay h0 ad ca q d av S n ss r S1 n1 ss1 := by
  intro d
  induction d with
  | zero => intro q _ av S n ss r S1 n1 ss1 _ h; exact nomatch (show (none : Option (Option Value × sS × Nat × Nat)) = some _ from h)
  | succ d ih =>
    intro q hq av S n ss r S1 n1 ss1 h19 h
    unfold evA at h
    obtain ⟨hy, hown, hdA, hnm, hret⟩ := hq
    obtain ⟨hw, h⟩ := bif_s h
    split at h
    · next r2 S2 n2 ss2 hrun =>
      obtain ⟨hb, h⟩ := bif_s h
      cases h
      rw [Bool.and_eq_true, Bool.and_eq_true] at hb
      have b1 := Nat.le_of_ble_eq_true hb.1
      have b2 := Nat.le_of_ble_eq_true hb.2.1
      have b3 := Nat.le_of_ble_eq_true hb.2.2
      refine ⟨b1, b2, b3, ?_⟩
      refine Met.ofW (cc := q.2.1) (maxL := q.2.2.1) (ret := q.2.2.2.1) hy rfl ?_
      intro p e s m args below meth c s₁ B hml hv
      obtain ⟨⟨rfl, hsz, hP, hK, hD0, hN⟩, hOv⟩ := hv
      have hl := lv_entry (av.map (trV ad)) (n := q.2.2.1) (by rw [wds_len, wds_tr]; exact Nat.le_of_ble_eq_true hw)
      have hts := atoms_spec (ws := Cond.code q.1 q.2.1 q.2.2.1 q.2.2.2.1 :: lw_good) B.pre
      have hD := hD0.self (sz := s.heap.size)
      rw [sA_eq] at hD
      rw [lg_entry_eq]
      have G : CallFix p m c q.2.1 q.2.2.1 s (av.map (trV ad)).toArray lw_good q.1.cls := ⟨B.exec, B.bytes, hml, findClass_of_methodNamed B.named, fun w hw => hts w (List.mem_cons_of_mem _ hw)⟩
      have hrt := B.returns
      rw [hret] at hrt
      have hlocks := B.notSynchronized
      have hmn : meth.name = "<init>" := ((name_of_methodNamed B.named B.method).1).trans hnm
      rw [lv_args_tr] at hl
      have eA : sA n1 ad s.heap.size = sA n ad s.heap.size := sA_up b1 (fun k h1 h2 => by rw [had k (by omega), hsz]; omega)
      have main := runA_ok (l := l) (e := e) (below := below) (meth := meth) (D := D) (ca := ca) (h0 := h0) (n0 := n) (ss0 := ss) (d := d) (sc := false) (L := 0) (xs := fun _ => 0) (ret := none) (r0 := r) (S0 := S1) (n1 := n1) (ss1 := ss1) (lay := lay) (R := rmA (d + 1) (n1 - n) (ss1 - ss)) (Q := MQ below (sQA D lay n n1 ad ca (h0 + n) r S1) (av.map (trV ad)).toArray s (n1 - n) (ss1 - ss) (sA n ad (h0 + n))) G hdA hOv aOk (fun ix ci j b z => hown ▸ fLs_ok ix ci j b z) (fun ix v z => hown ▸ cLs_ok ix v z) (fun ix kd md na z => hown ▸ kLs_ok ix kd md na z) (fun ix ci z => hown ▸ cCs_ok ix ci z) (fun ix kd md na z => hown ▸ kIs_ok ix kd md na z) (Or.inl ⟨hmn, hown⟩) (fun z => absurd z (by decide)) (nb := n) (fun _ => had) (fun _ _ _ _ _ _ _ => had) hsz
        (fun n _ md hmd av S r S1 hz => evd_ok layN_in d md hmd av S r S1 hz) (fun md hmd av S n ss r S1 n1 ss1 hn hz => ih md hmd av S n ss r S1 n1 ss1 hn hz) ⟨Nat.le_refl _, Nat.le_refl _⟩ (Nat.le_refl _) (Nat.le_refl _)
        (fun pc ls H locs B1 he => by
          rcases he with ⟨-, z, -⟩ | ⟨hpc, -, rfl⟩
          · cases z
          · have hS := B1.2.2.2.1
            rw [eA] at hS
            rw [← hsz]
            refine W.vret G.1 G.2.1 hrt (fun t ht hW => ⟨⟨rfl, by rw [ht]; exact B1.2.1, va_K.moved hW.alike B1.1, ?_⟩, hS.F ht⟩) hS.2.2 (dOkA_n hdA hpc rfl) hlocks
            have q2 := B1.2.2.1
            rw [eA] at q2
            exact q2) F n ss 0 (lv_args 0 av) [] S (Nat.le_refl _) (Nat.le_refl _) (Nat.le_refl _) h19 hrun
      have g := main.2.2
      rw [Nat.sub_self, Nat.sub_self] at g
      exact g _ s.heap [] hl ⟨hK, hP, hD, va_S.rf, hN⟩
    · cases h
end EA


