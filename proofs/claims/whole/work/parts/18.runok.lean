/-! what the small machine answers, the JVM answers -/
section RK
variable {p : Program} {l : Launch} {e : Env} {R : Room} {s : State} {m : MethodId} {args : Array Value} {below : List Frame} {meth : Method} {c : Code}
variable {cc : ByteArray} {nL cells slots : Nat} {D : va_G} {lay : Nat → Nat × Nat} {nc : Nat} {ad ca : Nat → Nat} {own : String} {code : List (Nat × Instr)} {fL : Nat → Option (Nat × Nat × Bool)} {cL : Nat → Option Value} {kL : Nat → Option (Nat × mT × Nat)}
variable {call : cal} {d : Nat} {ret : Option FieldType} {r0 : Option Value} {S0 : sS}
theorem run_ok (G : CallFix p m c cc nL s args lw_good own) (hd : dOk cc code = true) (hlay : ∀ k, (lay k).1 < 7 → k < nc) (hfL : ∀ ix ci j b, fL ix = some (ci, j, b) → FOk own ix ci j b) (hcL : ∀ ix v, cL ix = some v → COk own ix v) (hkL : ∀ ix kd md na, kL ix = some (kd, md, na) → KOk own ix kd na md)
    (hcall : ∀ md, MOk md → ∀ av S r S1, call md av S = some (r, S1) → sM l D lay nc ad ca md.1 md.2.1 md.2.2.1 md.2.2.2.1 d av S r S1) (hr : meth.sig.returnType = ret) (hlocks : meth.locks = false) (hR : d + 1 ≤ R.frames ∧ 40 * (d + 1) ≤ R.locals) (hcs : cells ≤ R.cells ∧ slots ≤ R.slots) :
    ∀ (F pc : Nat) (lv : List (Nat × Value)) (st : List Value) (S : sS), run lay fL cL kL nL ret call code F pc lv st S = some (r0, S0) → OkP p l e R s m args below meth c D lay nc ad ca nL cells slots (MQ below (sQ D lay nc ad ca s.heap.size r0 S0) args s cells slots (sA nc ad s.heap.size)) pc lv st S := by
  intro F
  induction F with
  | zero => intro pc lv st S h; exact nomatch (show (none : Option (Option Value × sS)) = some _ from h)
  | succ F ih =>
    intro pc lv st S h
    unfold run at h
    cases hi : lk code pc with
    | none => rw [hi] at h; exact nomatch (show (none : Option (Option Value × sS)) = some _ from h)
    | some i =>
      rw [hi] at h
      dsimp only at h
      have other : (match stp lay fL cL nL i pc lv st S with
        | some (pc1, lv1, st1, S1) => run lay fL cL kL nL ret call code F pc1 lv1 st1 S1
        | none => none) = some (r0, S0) → OkP p l e R s m args below meth c D lay nc ad ca nL cells slots (MQ below (sQ D lay nc ad ca s.heap.size r0 S0) args s cells slots (sA nc ad s.heap.size)) pc lv st S := by
        intro h
        split at h
        · next pc1 lv1 st1 S1 hs => exact stp_ok G hd hlay hfL hcL hi hs (ih _ _ _ _ h)
        · cases h
      split at h
      · next ix =>
        split at h
        · next md na hk =>
          obtain ⟨hc, h⟩ := bif_s h
          have hK := (hkL _ _ _ _ hk).of (by decide)
          split at h
          · next v S1 he =>
            intro ls H locs hl B
            obtain ⟨a, hrun⟩ := r_runV (e := e) (below := below) (meth := meth) (locs := locs) G B hlay hK hc (hcall _ hK.1 _ _ _ _ he) hl.1 hR hcs (dOk_n hd hi rfl)
            exact r_back B hrun (fun H1 locs1 B1 => ih _ _ _ _ h ls H1 locs1 hl B1)
          · next S1 he =>
            intro ls H locs hl B
            obtain ⟨a, hrun⟩ := r_runV (e := e) (below := below) (meth := meth) (locs := locs) G B hlay hK hc (hcall _ hK.1 _ _ _ _ he) hl.1 hR hcs (dOk_n hd hi rfl)
            exact r_back B hrun (fun H1 locs1 B1 => ih _ _ _ _ h ls H1 locs1 hl B1)
          · cases h
        · next md na hk =>
          obtain ⟨hc, h⟩ := bif_s h
          have hK := (hkL _ _ _ _ hk).of (by decide)
          split at h
          · next v S1 he =>
            intro ls H locs hl B
            obtain ⟨a, hrun⟩ := r_runT (e := e) (below := below) (meth := meth) (locs := locs) G B hK hc (hcall _ hK.1 _ _ _ _ he) hl.1 hR hcs (dOk_n hd hi rfl)
            exact r_back B hrun (fun H1 locs1 B1 => ih _ _ _ _ h ls H1 locs1 hl B1)
          · next S1 he =>
            intro ls H locs hl B
            obtain ⟨a, hrun⟩ := r_runT (e := e) (below := below) (meth := meth) (locs := locs) G B hK hc (hcall _ hK.1 _ _ _ _ he) hl.1 hR hcs (dOk_n hd hi rfl)
            exact r_back B hrun (fun H1 locs1 B1 => ih _ _ _ _ h ls H1 locs1 hl B1)
          · cases h
        · cases h
      · next ix =>
        split at h
        · next md na hk =>
          obtain ⟨hc, h⟩ := bif_s h
          have hK := (hkL _ _ _ _ hk).of (by decide)
          split at h
          · next v S1 he =>
            intro ls H locs hl B
            obtain ⟨a, hrun⟩ := r_runS (e := e) (below := below) (meth := meth) (locs := locs) G B hK hc (hcall _ hK.1 _ _ _ _ he) hl.1 hR hcs (dOk_n hd hi rfl)
            exact r_back B hrun (fun H1 locs1 B1 => ih _ _ _ _ h ls H1 locs1 hl B1)
          · next S1 he =>
            intro ls H locs hl B
            obtain ⟨a, hrun⟩ := r_runS (e := e) (below := below) (meth := meth) (locs := locs) G B hK hc (hcall _ hK.1 _ _ _ _ he) hl.1 hR hcs (dOk_n hd hi rfl)
            exact r_back B hrun (fun H1 locs1 B1 => ih _ _ _ _ h ls H1 locs1 hl B1)
          · cases h
        · next md na hk =>
          obtain ⟨hc, h⟩ := bif_s h
          have hK := (hkL _ _ _ _ hk).of (by decide)
          split at h
          · next v S1 he =>
            intro ls H locs hl B
            obtain ⟨a, hrun⟩ := r_runN (e := e) (below := below) (meth := meth) (locs := locs) G B hK hc (hcall _ hK.1 _ _ _ _ he) hl.1 hR hcs (dOk_n hd hi rfl)
            exact r_back B hrun (fun H1 locs1 B1 => ih _ _ _ _ h ls H1 locs1 hl B1)
          · next S1 he =>
            intro ls H locs hl B
            obtain ⟨a, hrun⟩ := r_runN (e := e) (below := below) (meth := meth) (locs := locs) G B hK hc (hcall _ hK.1 _ _ _ _ he) hl.1 hR hcs (dOk_n hd hi rfl)
            exact r_back B hrun (fun H1 locs1 B1 => ih _ _ _ _ h ls H1 locs1 hl B1)
          · cases h
        · next md na hk =>
          split at h
          · next n dp b sp a r =>
            obtain ⟨hr8, h⟩ := bif_s h
            split at h
            · next S1 hc =>
              exact fun ls H locs hl B => r_copy G B hlay (hkL _ _ _ _ hk).cp hr8 hl.1 hc hR (dOk_n hd hi rfl) (fun H1 locs1 B1 => ih _ _ _ _ h ls H1 locs1 hl B1)
            · cases h
          · cases h
        · next md na hk =>
          split at h
          · next y x r =>
            obtain ⟨hr8, h⟩ := bif_s h
            have hM := (hkL _ _ _ _ hk).mx
            exact fun ls H locs hl B => va_mmax G.1 G.2.1 (G.2.2.1.trans hl.1.symm) G.2.2.2.1 (G.2.2.2.2 _ hM.1) (G.2.2.2.2 _ hM.2.1) (G.2.2.2.2 _ hM.2.2.1) (G.2.2.2.2 _ hM.2.2.2) (Nat.le_trans (Nat.succ_le_succ (Nat.zero_le _)) hR.1) (by have h1 := r_stS (ad := ad) hr8; have h2 := hR.2; omega) hcs.1 hcs.2 (dOk_n hd hi rfl) (ih _ _ _ _ h ls H locs hl B)
          · cases h
        · next md na hk =>
          split at h
          · next y x r =>
            obtain ⟨hr8, h⟩ := bif_s h
            have hM := (hkL _ _ _ _ hk).mn
            exact fun ls H locs hl B => va_mmin G.1 G.2.1 (G.2.2.1.trans hl.1.symm) G.2.2.2.1 (G.2.2.2.2 _ hM.1) (G.2.2.2.2 _ hM.2.1) (G.2.2.2.2 _ hM.2.2.1) (G.2.2.2.2 _ hM.2.2.2) (Nat.le_trans (Nat.succ_le_succ (Nat.zero_le _)) hR.1) (by have h1 := r_stS (ad := ad) hr8; have h2 := hR.2; omega) hcs.1 hcs.2 (dOk_n hd hi rfl) (ih _ _ _ _ h ls H locs hl B)
          · cases h
        · next md na hk =>
          split at h
          · next x r =>
            obtain ⟨hr8, h⟩ := bif_s h
            have hM := (hkL _ _ _ _ hk).ma
            exact fun ls H locs hl B => va_mabs G.1 G.2.1 (G.2.2.1.trans hl.1.symm) G.2.2.2.1 (G.2.2.2.2 _ hM.1) (G.2.2.2.2 _ hM.2.1) (G.2.2.2.2 _ hM.2.2.1) (G.2.2.2.2 _ hM.2.2.2) (Nat.le_trans (Nat.succ_le_succ (Nat.zero_le _)) hR.1) (by have h1 := r_stS (ad := ad) hr8; have h2 := hR.2; omega) hcs.1 hcs.2 (dOk_n hd hi rfl) (ih _ _ _ _ h ls H locs hl B)
          · cases h
        · cases h
      · split at h
        · next v =>
          obtain ⟨hv, h⟩ := bif_s h
          cases h
          intro ls H locs hl B
          unfold retI at hv
          split at hv
          · exact W.iret (v := v) G.1 G.2.1 hr (fun t ht hW => ⟨⟨rfl, by rw [ht]; exact B.2.1, va_K.moved hW.alike B.1, B.2.2.1⟩, B.2.2.2.1.F ht⟩) B.2.2.2.1.2.2 (dOk_n hd hi rfl) hlocks
          · have hv := of_decide_eq_true hv
            exact W.zret (v := v) G.1 G.2.1 hr (by rcases hv with rfl | rfl <;> rfl) (fun t ht hW => ⟨⟨rfl, by rw [ht]; exact B.2.1, va_K.moved hW.alike B.1, B.2.2.1⟩, B.2.2.2.1.F ht⟩) B.2.2.2.1.2.2 (dOk_n hd hi rfl) hlocks
          · exact W.zret (v := v) G.1 G.2.1 hr (of_decide_eq_true hv) (fun t ht hW => ⟨⟨rfl, by rw [ht]; exact B.2.1, va_K.moved hW.alike B.1, B.2.2.1⟩, B.2.2.2.1.F ht⟩) B.2.2.2.1.2.2 (dOk_n hd hi rfl) hlocks
          · exact W.zret (v := v) G.1 G.2.1 hr (of_decide_eq_true hv) (fun t ht hW => ⟨⟨rfl, by rw [ht]; exact B.2.1, va_K.moved hW.alike B.1, B.2.2.1⟩, B.2.2.2.1.F ht⟩) B.2.2.2.1.2.2 (dOk_n hd hi rfl) hlocks
          · cases hv
        · cases h
      · split at h
        · next v =>
          split at h
          · cases h
            intro ls H locs hl B
            exact W.lret (v := v) G.1 G.2.1 hr (fun t ht hW => ⟨⟨rfl, by rw [ht]; exact B.2.1, va_K.moved hW.alike B.1, B.2.2.1⟩, B.2.2.2.1.F ht⟩) B.2.2.2.1.2.2 (dOk_n hd hi rfl) hlocks
          · cases h
        · cases h
      · split at h
        · next v =>
          obtain ⟨hv, h⟩ := bif_s h
          cases h
          intro ls H locs hl B
          have key : ((∃ n, ret = some (.object n)) ∨ ∃ t, ret = some (.array t)) ∧ (trV ad v = .null ∨ ∃ a, trV ad v = .ref a) := by
            unfold retA at hv
            split at hv
            · exact ⟨Or.inl ⟨_, rfl⟩, Or.inr ⟨_, rfl⟩⟩
            · exact ⟨Or.inl ⟨_, rfl⟩, Or.inl rfl⟩
            · exact ⟨Or.inr ⟨_, rfl⟩, Or.inr ⟨_, rfl⟩⟩
            · exact ⟨Or.inr ⟨_, rfl⟩, Or.inl rfl⟩
            · cases hv
          obtain ⟨hrt, hvv⟩ := key
          rcases hrt with ⟨n, rfl⟩ | ⟨t, rfl⟩
          · exact W.aret (v := trV ad v) G.1 G.2.1 hr (Or.inl ⟨_, rfl⟩) hvv (fun t ht hW => ⟨⟨rfl, by rw [ht]; exact B.2.1, va_K.moved hW.alike B.1, B.2.2.1⟩, B.2.2.2.1.F ht⟩) B.2.2.2.1.2.2 (dOk_n hd hi rfl) hlocks
          · exact W.aret (v := trV ad v) G.1 G.2.1 hr (Or.inr ⟨_, rfl⟩) hvv (fun t ht hW => ⟨⟨rfl, by rw [ht]; exact B.2.1, va_K.moved hW.alike B.1, B.2.2.1⟩, B.2.2.2.1.F ht⟩) B.2.2.2.1.2.2 (dOk_n hd hi rfl) hlocks
        · cases h
      · split at h
        · split at h
          · cases h
            intro ls H locs hl B
            exact W.vret G.1 G.2.1 hr (fun t ht hW => ⟨⟨rfl, by rw [ht]; exact B.2.1, va_K.moved hW.alike B.1, B.2.2.1⟩, B.2.2.2.1.F ht⟩) B.2.2.2.1.2.2 (dOk_n hd hi rfl) hlocks
          · cases h
        · cases h
      · exact other h
end RK


