/-! the JVM follows one instruction of the small machine: all cases -/
section SP
variable {p : Program} {l : Launch} {e : Env} {R : Room} {s : State} {m : MethodId} {args : Array Value} {below : List Frame} {meth : Method} {c : Code} {Q : State → Prop}
variable {cc : ByteArray} {nL cells slots : Nat} {D : va_G} {lay : Nat → Nat × Nat} {nc : Nat} {ad ca : Nat → Nat} {own : String} {code : List (Nat × Instr)} {fL : Nat → Option (Nat × Nat × Bool)} {cL : Nat → Option Value}

theorem so_iconst (G : CallFix p m c cc nL s args lw_good own) (hd : dOk cc code = true) (hlay : ∀ k, (lay k).1 < 7 → k < nc) (hfL : ∀ ix ci j b, fL ix = some (ci, j, b) → FOk own ix ci j b) (hcL : ∀ ix v, cL ix = some v → COk own ix v) {pc pc1 : Nat} {lv lv1 : List (Nat × Value)} {st st1 : List Value} {S S1 : sS} {n : Int} (hi : lk code pc = some (.iconst n)) (h : stp lay fL cL nL (.iconst n) pc lv st S = some (pc1, lv1, st1, S1)) (kk : OkP p l e R s m args below meth c D lay nc ad ca nL cells slots Q pc1 lv1 st1 S1) : OkP p l e R s m args below meth c D lay nc ad ca nL cells slots Q pc lv st S := by
  unfold stp at h
  dsimp only at h
  cases h
  exact fun ls H locs hl B => lv_iconst G.1 G.2.1 (dOk_n hd hi rfl) rfl (kk ls H locs hl B)
theorem so_bipush (G : CallFix p m c cc nL s args lw_good own) (hd : dOk cc code = true) (hlay : ∀ k, (lay k).1 < 7 → k < nc) (hfL : ∀ ix ci j b, fL ix = some (ci, j, b) → FOk own ix ci j b) (hcL : ∀ ix v, cL ix = some v → COk own ix v) {pc pc1 : Nat} {lv lv1 : List (Nat × Value)} {st st1 : List Value} {S S1 : sS} {n : Int} (hi : lk code pc = some (.bipush n)) (h : stp lay fL cL nL (.bipush n) pc lv st S = some (pc1, lv1, st1, S1)) (kk : OkP p l e R s m args below meth c D lay nc ad ca nL cells slots Q pc1 lv1 st1 S1) : OkP p l e R s m args below meth c D lay nc ad ca nL cells slots Q pc lv st S := by
  unfold stp at h
  dsimp only at h
  cases h
  exact fun ls H locs hl B => lv_bipush G.1 G.2.1 (dOk_n hd hi rfl) rfl (kk ls H locs hl B)
theorem so_sipush (G : CallFix p m c cc nL s args lw_good own) (hd : dOk cc code = true) (hlay : ∀ k, (lay k).1 < 7 → k < nc) (hfL : ∀ ix ci j b, fL ix = some (ci, j, b) → FOk own ix ci j b) (hcL : ∀ ix v, cL ix = some v → COk own ix v) {pc pc1 : Nat} {lv lv1 : List (Nat × Value)} {st st1 : List Value} {S S1 : sS} {n : Int} (hi : lk code pc = some (.sipush n)) (h : stp lay fL cL nL (.sipush n) pc lv st S = some (pc1, lv1, st1, S1)) (kk : OkP p l e R s m args below meth c D lay nc ad ca nL cells slots Q pc1 lv1 st1 S1) : OkP p l e R s m args below meth c D lay nc ad ca nL cells slots Q pc lv st S := by
  unfold stp at h
  dsimp only at h
  cases h
  exact fun ls H locs hl B => lv_sipush G.1 G.2.1 (dOk_n hd hi rfl) rfl (kk ls H locs hl B)
theorem so_lconst (G : CallFix p m c cc nL s args lw_good own) (hd : dOk cc code = true) (hlay : ∀ k, (lay k).1 < 7 → k < nc) (hfL : ∀ ix ci j b, fL ix = some (ci, j, b) → FOk own ix ci j b) (hcL : ∀ ix v, cL ix = some v → COk own ix v) {pc pc1 : Nat} {lv lv1 : List (Nat × Value)} {st st1 : List Value} {S S1 : sS} {n2 : Fin 2} (hi : lk code pc = some (.lconst n2)) (h : stp lay fL cL nL (.lconst n2) pc lv st S = some (pc1, lv1, st1, S1)) (kk : OkP p l e R s m args below meth c D lay nc ad ca nL cells slots Q pc1 lv1 st1 S1) : OkP p l e R s m args below meth c D lay nc ad ca nL cells slots Q pc lv st S := by
  unfold stp at h
  dsimp only at h
  cases h
  exact fun ls H locs hl B => lv_lconst G.1 G.2.1 (dOk_n hd hi rfl) rfl (kk ls H locs hl B)
theorem so_iload_n (G : CallFix p m c cc nL s args lw_good own) (hd : dOk cc code = true) (hlay : ∀ k, (lay k).1 < 7 → k < nc) (hfL : ∀ ix ci j b, fL ix = some (ci, j, b) → FOk own ix ci j b) (hcL : ∀ ix v, cL ix = some v → COk own ix v) {pc pc1 : Nat} {lv lv1 : List (Nat × Value)} {st st1 : List Value} {S S1 : sS} {k4 : Fin 4} (hi : lk code pc = some (.iload_n k4)) (h : stp lay fL cL nL (.iload_n k4) pc lv st S = some (pc1, lv1, st1, S1)) (kk : OkP p l e R s m args below meth c D lay nc ad ca nL cells slots Q pc1 lv1 st1 S1) : OkP p l e R s m args below meth c D lay nc ad ca nL cells slots Q pc lv st S := by
  unfold stp at h
  dsimp only at h
  split at h
  · next x he =>
    cases h
    exact fun ls H locs hl B => lv_iload_n G.1 G.2.1 (dOk_n hd hi rfl) rfl (lgt_at he hl) (kk ls H locs hl B)
  · cases h
theorem so_iload (G : CallFix p m c cc nL s args lw_good own) (hd : dOk cc code = true) (hlay : ∀ k, (lay k).1 < 7 → k < nc) (hfL : ∀ ix ci j b, fL ix = some (ci, j, b) → FOk own ix ci j b) (hcL : ∀ ix v, cL ix = some v → COk own ix v) {pc pc1 : Nat} {lv lv1 : List (Nat × Value)} {st st1 : List Value} {S S1 : sS} {k : Nat} (hi : lk code pc = some (.iload k)) (h : stp lay fL cL nL (.iload k) pc lv st S = some (pc1, lv1, st1, S1)) (kk : OkP p l e R s m args below meth c D lay nc ad ca nL cells slots Q pc1 lv1 st1 S1) : OkP p l e R s m args below meth c D lay nc ad ca nL cells slots Q pc lv st S := by
  unfold stp at h
  dsimp only at h
  split at h
  · next x he =>
    cases h
    exact fun ls H locs hl B => lv_iload G.1 G.2.1 (dOk_n hd hi rfl) (lgt_at he hl) (kk ls H locs hl B)
  · cases h
theorem so_istore_n (G : CallFix p m c cc nL s args lw_good own) (hd : dOk cc code = true) (hlay : ∀ k, (lay k).1 < 7 → k < nc) (hfL : ∀ ix ci j b, fL ix = some (ci, j, b) → FOk own ix ci j b) (hcL : ∀ ix v, cL ix = some v → COk own ix v) {pc pc1 : Nat} {lv lv1 : List (Nat × Value)} {st st1 : List Value} {S S1 : sS} {k4 : Fin 4} (hi : lk code pc = some (.istore_n k4)) (h : stp lay fL cL nL (.istore_n k4) pc lv st S = some (pc1, lv1, st1, S1)) (kk : OkP p l e R s m args below meth c D lay nc ad ca nL cells slots Q pc1 lv1 st1 S1) : OkP p l e R s m args below meth c D lay nc ad ca nL cells slots Q pc lv st S := by
  unfold stp at h
  dsimp only at h
  split at h
  · next x r =>
    obtain ⟨hb, h⟩ := bif_s h
    cases h
    exact fun ls H locs hl B => lv_istore_n G.1 G.2.1 (dOk_n hd hi rfl) rfl hl (Nat.le_of_ble_eq_true hb) (st1_tr (ad := ad) (v := .int x)).symm (fun ls1 hl1 => kk ls1 H locs hl1 B)
  · cases h
theorem so_istore (G : CallFix p m c cc nL s args lw_good own) (hd : dOk cc code = true) (hlay : ∀ k, (lay k).1 < 7 → k < nc) (hfL : ∀ ix ci j b, fL ix = some (ci, j, b) → FOk own ix ci j b) (hcL : ∀ ix v, cL ix = some v → COk own ix v) {pc pc1 : Nat} {lv lv1 : List (Nat × Value)} {st st1 : List Value} {S S1 : sS} {k : Nat} (hi : lk code pc = some (.istore k)) (h : stp lay fL cL nL (.istore k) pc lv st S = some (pc1, lv1, st1, S1)) (kk : OkP p l e R s m args below meth c D lay nc ad ca nL cells slots Q pc1 lv1 st1 S1) : OkP p l e R s m args below meth c D lay nc ad ca nL cells slots Q pc lv st S := by
  unfold stp at h
  dsimp only at h
  split at h
  · next x r =>
    obtain ⟨hb, h⟩ := bif_s h
    cases h
    exact fun ls H locs hl B => lv_istore G.1 G.2.1 (dOk_n hd hi rfl) hl (Nat.le_of_ble_eq_true hb) (st1_tr (ad := ad) (v := .int x)).symm (fun ls1 hl1 => kk ls1 H locs hl1 B)
  · cases h
theorem so_lload_n (G : CallFix p m c cc nL s args lw_good own) (hd : dOk cc code = true) (hlay : ∀ k, (lay k).1 < 7 → k < nc) (hfL : ∀ ix ci j b, fL ix = some (ci, j, b) → FOk own ix ci j b) (hcL : ∀ ix v, cL ix = some v → COk own ix v) {pc pc1 : Nat} {lv lv1 : List (Nat × Value)} {st st1 : List Value} {S S1 : sS} {k4 : Fin 4} (hi : lk code pc = some (.lload_n k4)) (h : stp lay fL cL nL (.lload_n k4) pc lv st S = some (pc1, lv1, st1, S1)) (kk : OkP p l e R s m args below meth c D lay nc ad ca nL cells slots Q pc1 lv1 st1 S1) : OkP p l e R s m args below meth c D lay nc ad ca nL cells slots Q pc lv st S := by
  unfold stp at h
  dsimp only at h
  split at h
  · next x he =>
    cases h
    exact fun ls H locs hl B => lv_lload_n G.1 G.2.1 (dOk_n hd hi rfl) rfl (lgt_at he hl) (kk ls H locs hl B)
  · cases h
theorem so_lload (G : CallFix p m c cc nL s args lw_good own) (hd : dOk cc code = true) (hlay : ∀ k, (lay k).1 < 7 → k < nc) (hfL : ∀ ix ci j b, fL ix = some (ci, j, b) → FOk own ix ci j b) (hcL : ∀ ix v, cL ix = some v → COk own ix v) {pc pc1 : Nat} {lv lv1 : List (Nat × Value)} {st st1 : List Value} {S S1 : sS} {k : Nat} (hi : lk code pc = some (.lload k)) (h : stp lay fL cL nL (.lload k) pc lv st S = some (pc1, lv1, st1, S1)) (kk : OkP p l e R s m args below meth c D lay nc ad ca nL cells slots Q pc1 lv1 st1 S1) : OkP p l e R s m args below meth c D lay nc ad ca nL cells slots Q pc lv st S := by
  unfold stp at h
  dsimp only at h
  split at h
  · next x he =>
    cases h
    exact fun ls H locs hl B => lv_lload G.1 G.2.1 (dOk_n hd hi rfl) (lgt_at he hl) (kk ls H locs hl B)
  · cases h
theorem so_lstore_n (G : CallFix p m c cc nL s args lw_good own) (hd : dOk cc code = true) (hlay : ∀ k, (lay k).1 < 7 → k < nc) (hfL : ∀ ix ci j b, fL ix = some (ci, j, b) → FOk own ix ci j b) (hcL : ∀ ix v, cL ix = some v → COk own ix v) {pc pc1 : Nat} {lv lv1 : List (Nat × Value)} {st st1 : List Value} {S S1 : sS} {k4 : Fin 4} (hi : lk code pc = some (.lstore_n k4)) (h : stp lay fL cL nL (.lstore_n k4) pc lv st S = some (pc1, lv1, st1, S1)) (kk : OkP p l e R s m args below meth c D lay nc ad ca nL cells slots Q pc1 lv1 st1 S1) : OkP p l e R s m args below meth c D lay nc ad ca nL cells slots Q pc lv st S := by
  unfold stp at h
  dsimp only at h
  split at h
  · next x r =>
    obtain ⟨hb, h⟩ := bif_s h
    cases h
    exact fun ls H locs hl B => lv_lstore_n G.1 G.2.1 (dOk_n hd hi rfl) rfl hl (Nat.le_of_ble_eq_true hb) (st2_tr (ad := ad) (v := .long x)).symm (fun ls1 hl1 => kk ls1 H locs hl1 B)
  · cases h
theorem so_lstore (G : CallFix p m c cc nL s args lw_good own) (hd : dOk cc code = true) (hlay : ∀ k, (lay k).1 < 7 → k < nc) (hfL : ∀ ix ci j b, fL ix = some (ci, j, b) → FOk own ix ci j b) (hcL : ∀ ix v, cL ix = some v → COk own ix v) {pc pc1 : Nat} {lv lv1 : List (Nat × Value)} {st st1 : List Value} {S S1 : sS} {k : Nat} (hi : lk code pc = some (.lstore k)) (h : stp lay fL cL nL (.lstore k) pc lv st S = some (pc1, lv1, st1, S1)) (kk : OkP p l e R s m args below meth c D lay nc ad ca nL cells slots Q pc1 lv1 st1 S1) : OkP p l e R s m args below meth c D lay nc ad ca nL cells slots Q pc lv st S := by
  unfold stp at h
  dsimp only at h
  split at h
  · next x r =>
    obtain ⟨hb, h⟩ := bif_s h
    cases h
    exact fun ls H locs hl B => lv_lstore G.1 G.2.1 (dOk_n hd hi rfl) hl (Nat.le_of_ble_eq_true hb) (st2_tr (ad := ad) (v := .long x)).symm (fun ls1 hl1 => kk ls1 H locs hl1 B)
  · cases h
theorem so_aload_n (G : CallFix p m c cc nL s args lw_good own) (hd : dOk cc code = true) (hlay : ∀ k, (lay k).1 < 7 → k < nc) (hfL : ∀ ix ci j b, fL ix = some (ci, j, b) → FOk own ix ci j b) (hcL : ∀ ix v, cL ix = some v → COk own ix v) {pc pc1 : Nat} {lv lv1 : List (Nat × Value)} {st st1 : List Value} {S S1 : sS} {k4 : Fin 4} (hi : lk code pc = some (.aload_n k4)) (h : stp lay fL cL nL (.aload_n k4) pc lv st S = some (pc1, lv1, st1, S1)) (kk : OkP p l e R s m args below meth c D lay nc ad ca nL cells slots Q pc1 lv1 st1 S1) : OkP p l e R s m args below meth c D lay nc ad ca nL cells slots Q pc lv st S := by
  unfold stp at h
  dsimp only at h
  split at h
  · next x he =>
    cases h
    exact fun ls H locs hl B => lv_aload_n G.1 G.2.1 (dOk_n hd hi rfl) rfl (lgt_at he hl) (kk ls H locs hl B)
  · cases h
theorem so_aload (G : CallFix p m c cc nL s args lw_good own) (hd : dOk cc code = true) (hlay : ∀ k, (lay k).1 < 7 → k < nc) (hfL : ∀ ix ci j b, fL ix = some (ci, j, b) → FOk own ix ci j b) (hcL : ∀ ix v, cL ix = some v → COk own ix v) {pc pc1 : Nat} {lv lv1 : List (Nat × Value)} {st st1 : List Value} {S S1 : sS} {k : Nat} (hi : lk code pc = some (.aload k)) (h : stp lay fL cL nL (.aload k) pc lv st S = some (pc1, lv1, st1, S1)) (kk : OkP p l e R s m args below meth c D lay nc ad ca nL cells slots Q pc1 lv1 st1 S1) : OkP p l e R s m args below meth c D lay nc ad ca nL cells slots Q pc lv st S := by
  unfold stp at h
  dsimp only at h
  split at h
  · next x he =>
    cases h
    exact fun ls H locs hl B => lv_aload G.1 G.2.1 (dOk_n hd hi rfl) (lgt_at he hl) (kk ls H locs hl B)
  · cases h
theorem so_astore_n (G : CallFix p m c cc nL s args lw_good own) (hd : dOk cc code = true) (hlay : ∀ k, (lay k).1 < 7 → k < nc) (hfL : ∀ ix ci j b, fL ix = some (ci, j, b) → FOk own ix ci j b) (hcL : ∀ ix v, cL ix = some v → COk own ix v) {pc pc1 : Nat} {lv lv1 : List (Nat × Value)} {st st1 : List Value} {S S1 : sS} {k4 : Fin 4} (hi : lk code pc = some (.astore_n k4)) (h : stp lay fL cL nL (.astore_n k4) pc lv st S = some (pc1, lv1, st1, S1)) (kk : OkP p l e R s m args below meth c D lay nc ad ca nL cells slots Q pc1 lv1 st1 S1) : OkP p l e R s m args below meth c D lay nc ad ca nL cells slots Q pc lv st S := by
  unfold stp at h
  dsimp only at h
  split at h
  · next x r =>
    obtain ⟨hb, h⟩ := bif_s h
    cases h
    exact fun ls H locs hl B => lv_astore_n G.1 G.2.1 (dOk_n hd hi rfl) rfl hl (Nat.le_of_ble_eq_true hb) (st1_tr (ad := ad) (v := .ref x)).symm (fun ls1 hl1 => kk ls1 H locs hl1 B)
  · cases h
theorem so_astore (G : CallFix p m c cc nL s args lw_good own) (hd : dOk cc code = true) (hlay : ∀ k, (lay k).1 < 7 → k < nc) (hfL : ∀ ix ci j b, fL ix = some (ci, j, b) → FOk own ix ci j b) (hcL : ∀ ix v, cL ix = some v → COk own ix v) {pc pc1 : Nat} {lv lv1 : List (Nat × Value)} {st st1 : List Value} {S S1 : sS} {k : Nat} (hi : lk code pc = some (.astore k)) (h : stp lay fL cL nL (.astore k) pc lv st S = some (pc1, lv1, st1, S1)) (kk : OkP p l e R s m args below meth c D lay nc ad ca nL cells slots Q pc1 lv1 st1 S1) : OkP p l e R s m args below meth c D lay nc ad ca nL cells slots Q pc lv st S := by
  unfold stp at h
  dsimp only at h
  split at h
  · next x r =>
    obtain ⟨hb, h⟩ := bif_s h
    cases h
    exact fun ls H locs hl B => lv_astore G.1 G.2.1 (dOk_n hd hi rfl) hl (Nat.le_of_ble_eq_true hb) (st1_tr (ad := ad) (v := .ref x)).symm (fun ls1 hl1 => kk ls1 H locs hl1 B)
  · cases h
theorem so_iinc (G : CallFix p m c cc nL s args lw_good own) (hd : dOk cc code = true) (hlay : ∀ k, (lay k).1 < 7 → k < nc) (hfL : ∀ ix ci j b, fL ix = some (ci, j, b) → FOk own ix ci j b) (hcL : ∀ ix v, cL ix = some v → COk own ix v) {pc pc1 : Nat} {lv lv1 : List (Nat × Value)} {st st1 : List Value} {S S1 : sS} {k : Nat} {n : Int} (hi : lk code pc = some (.iinc k n)) (h : stp lay fL cL nL (.iinc k n) pc lv st S = some (pc1, lv1, st1, S1)) (kk : OkP p l e R s m args below meth c D lay nc ad ca nL cells slots Q pc1 lv1 st1 S1) : OkP p l e R s m args below meth c D lay nc ad ca nL cells slots Q pc lv st S := by
  unfold stp at h
  dsimp only at h
  split at h
  · next x he =>
    obtain ⟨hb, h⟩ := bif_s h
    cases h
    intro ls H locs hl B
    obtain ⟨k0, hk0⟩ := lgt_ix (ad := ad) he
    exact lv_iinc G.1 G.2.1 (dOk_n hd hi rfl) hl hk0 rfl (Nat.le_of_ble_eq_true hb) (st1_tr (ad := ad) (v := .int _)).symm (fun ls1 hl1 => kk ls1 H locs hl1 B)
  · cases h
theorem so_iadd (G : CallFix p m c cc nL s args lw_good own) (hd : dOk cc code = true) (hlay : ∀ k, (lay k).1 < 7 → k < nc) (hfL : ∀ ix ci j b, fL ix = some (ci, j, b) → FOk own ix ci j b) (hcL : ∀ ix v, cL ix = some v → COk own ix v) {pc pc1 : Nat} {lv lv1 : List (Nat × Value)} {st st1 : List Value} {S S1 : sS}  (hi : lk code pc = some (.iadd)) (h : stp lay fL cL nL (.iadd) pc lv st S = some (pc1, lv1, st1, S1)) (kk : OkP p l e R s m args below meth c D lay nc ad ca nL cells slots Q pc1 lv1 st1 S1) : OkP p l e R s m args below meth c D lay nc ad ca nL cells slots Q pc lv st S := by
  unfold stp at h
  dsimp only at h
  split at h
  · cases h
    exact fun ls H locs hl B => lv_iadd G.1 G.2.1 (dOk_n hd hi rfl) (kk ls H locs hl B)
  · cases h
theorem so_isub (G : CallFix p m c cc nL s args lw_good own) (hd : dOk cc code = true) (hlay : ∀ k, (lay k).1 < 7 → k < nc) (hfL : ∀ ix ci j b, fL ix = some (ci, j, b) → FOk own ix ci j b) (hcL : ∀ ix v, cL ix = some v → COk own ix v) {pc pc1 : Nat} {lv lv1 : List (Nat × Value)} {st st1 : List Value} {S S1 : sS}  (hi : lk code pc = some (.isub)) (h : stp lay fL cL nL (.isub) pc lv st S = some (pc1, lv1, st1, S1)) (kk : OkP p l e R s m args below meth c D lay nc ad ca nL cells slots Q pc1 lv1 st1 S1) : OkP p l e R s m args below meth c D lay nc ad ca nL cells slots Q pc lv st S := by
  unfold stp at h
  dsimp only at h
  split at h
  · cases h
    exact fun ls H locs hl B => lv_isub G.1 G.2.1 (dOk_n hd hi rfl) (kk ls H locs hl B)
  · cases h
theorem so_imul (G : CallFix p m c cc nL s args lw_good own) (hd : dOk cc code = true) (hlay : ∀ k, (lay k).1 < 7 → k < nc) (hfL : ∀ ix ci j b, fL ix = some (ci, j, b) → FOk own ix ci j b) (hcL : ∀ ix v, cL ix = some v → COk own ix v) {pc pc1 : Nat} {lv lv1 : List (Nat × Value)} {st st1 : List Value} {S S1 : sS}  (hi : lk code pc = some (.imul)) (h : stp lay fL cL nL (.imul) pc lv st S = some (pc1, lv1, st1, S1)) (kk : OkP p l e R s m args below meth c D lay nc ad ca nL cells slots Q pc1 lv1 st1 S1) : OkP p l e R s m args below meth c D lay nc ad ca nL cells slots Q pc lv st S := by
  unfold stp at h
  dsimp only at h
  split at h
  · cases h
    exact fun ls H locs hl B => lv_imul G.1 G.2.1 (dOk_n hd hi rfl) (kk ls H locs hl B)
  · cases h
theorem so_iand (G : CallFix p m c cc nL s args lw_good own) (hd : dOk cc code = true) (hlay : ∀ k, (lay k).1 < 7 → k < nc) (hfL : ∀ ix ci j b, fL ix = some (ci, j, b) → FOk own ix ci j b) (hcL : ∀ ix v, cL ix = some v → COk own ix v) {pc pc1 : Nat} {lv lv1 : List (Nat × Value)} {st st1 : List Value} {S S1 : sS}  (hi : lk code pc = some (.iand)) (h : stp lay fL cL nL (.iand) pc lv st S = some (pc1, lv1, st1, S1)) (kk : OkP p l e R s m args below meth c D lay nc ad ca nL cells slots Q pc1 lv1 st1 S1) : OkP p l e R s m args below meth c D lay nc ad ca nL cells slots Q pc lv st S := by
  unfold stp at h
  dsimp only at h
  split at h
  · cases h
    exact fun ls H locs hl B => lv_iand G.1 G.2.1 (dOk_n hd hi rfl) (kk ls H locs hl B)
  · cases h
theorem so_ior (G : CallFix p m c cc nL s args lw_good own) (hd : dOk cc code = true) (hlay : ∀ k, (lay k).1 < 7 → k < nc) (hfL : ∀ ix ci j b, fL ix = some (ci, j, b) → FOk own ix ci j b) (hcL : ∀ ix v, cL ix = some v → COk own ix v) {pc pc1 : Nat} {lv lv1 : List (Nat × Value)} {st st1 : List Value} {S S1 : sS}  (hi : lk code pc = some (.ior)) (h : stp lay fL cL nL (.ior) pc lv st S = some (pc1, lv1, st1, S1)) (kk : OkP p l e R s m args below meth c D lay nc ad ca nL cells slots Q pc1 lv1 st1 S1) : OkP p l e R s m args below meth c D lay nc ad ca nL cells slots Q pc lv st S := by
  unfold stp at h
  dsimp only at h
  split at h
  · cases h
    exact fun ls H locs hl B => lv_ior G.1 G.2.1 (dOk_n hd hi rfl) (kk ls H locs hl B)
  · cases h
theorem so_ixor (G : CallFix p m c cc nL s args lw_good own) (hd : dOk cc code = true) (hlay : ∀ k, (lay k).1 < 7 → k < nc) (hfL : ∀ ix ci j b, fL ix = some (ci, j, b) → FOk own ix ci j b) (hcL : ∀ ix v, cL ix = some v → COk own ix v) {pc pc1 : Nat} {lv lv1 : List (Nat × Value)} {st st1 : List Value} {S S1 : sS}  (hi : lk code pc = some (.ixor)) (h : stp lay fL cL nL (.ixor) pc lv st S = some (pc1, lv1, st1, S1)) (kk : OkP p l e R s m args below meth c D lay nc ad ca nL cells slots Q pc1 lv1 st1 S1) : OkP p l e R s m args below meth c D lay nc ad ca nL cells slots Q pc lv st S := by
  unfold stp at h
  dsimp only at h
  split at h
  · cases h
    exact fun ls H locs hl B => lv_ixor G.1 G.2.1 (dOk_n hd hi rfl) (kk ls H locs hl B)
  · cases h
theorem so_ishl (G : CallFix p m c cc nL s args lw_good own) (hd : dOk cc code = true) (hlay : ∀ k, (lay k).1 < 7 → k < nc) (hfL : ∀ ix ci j b, fL ix = some (ci, j, b) → FOk own ix ci j b) (hcL : ∀ ix v, cL ix = some v → COk own ix v) {pc pc1 : Nat} {lv lv1 : List (Nat × Value)} {st st1 : List Value} {S S1 : sS}  (hi : lk code pc = some (.ishl)) (h : stp lay fL cL nL (.ishl) pc lv st S = some (pc1, lv1, st1, S1)) (kk : OkP p l e R s m args below meth c D lay nc ad ca nL cells slots Q pc1 lv1 st1 S1) : OkP p l e R s m args below meth c D lay nc ad ca nL cells slots Q pc lv st S := by
  unfold stp at h
  dsimp only at h
  split at h
  · cases h
    exact fun ls H locs hl B => lv_ishl G.1 G.2.1 (dOk_n hd hi rfl) (kk ls H locs hl B)
  · cases h
theorem so_ishr (G : CallFix p m c cc nL s args lw_good own) (hd : dOk cc code = true) (hlay : ∀ k, (lay k).1 < 7 → k < nc) (hfL : ∀ ix ci j b, fL ix = some (ci, j, b) → FOk own ix ci j b) (hcL : ∀ ix v, cL ix = some v → COk own ix v) {pc pc1 : Nat} {lv lv1 : List (Nat × Value)} {st st1 : List Value} {S S1 : sS}  (hi : lk code pc = some (.ishr)) (h : stp lay fL cL nL (.ishr) pc lv st S = some (pc1, lv1, st1, S1)) (kk : OkP p l e R s m args below meth c D lay nc ad ca nL cells slots Q pc1 lv1 st1 S1) : OkP p l e R s m args below meth c D lay nc ad ca nL cells slots Q pc lv st S := by
  unfold stp at h
  dsimp only at h
  split at h
  · cases h
    exact fun ls H locs hl B => lv_ishr G.1 G.2.1 (dOk_n hd hi rfl) (kk ls H locs hl B)
  · cases h
theorem so_ineg (G : CallFix p m c cc nL s args lw_good own) (hd : dOk cc code = true) (hlay : ∀ k, (lay k).1 < 7 → k < nc) (hfL : ∀ ix ci j b, fL ix = some (ci, j, b) → FOk own ix ci j b) (hcL : ∀ ix v, cL ix = some v → COk own ix v) {pc pc1 : Nat} {lv lv1 : List (Nat × Value)} {st st1 : List Value} {S S1 : sS}  (hi : lk code pc = some (.ineg)) (h : stp lay fL cL nL (.ineg) pc lv st S = some (pc1, lv1, st1, S1)) (kk : OkP p l e R s m args below meth c D lay nc ad ca nL cells slots Q pc1 lv1 st1 S1) : OkP p l e R s m args below meth c D lay nc ad ca nL cells slots Q pc lv st S := by
  unfold stp at h
  dsimp only at h
  split at h
  · cases h
    exact fun ls H locs hl B => lv_ineg G.1 G.2.1 (dOk_n hd hi rfl) (kk ls H locs hl B)
  · cases h
theorem so_ladd (G : CallFix p m c cc nL s args lw_good own) (hd : dOk cc code = true) (hlay : ∀ k, (lay k).1 < 7 → k < nc) (hfL : ∀ ix ci j b, fL ix = some (ci, j, b) → FOk own ix ci j b) (hcL : ∀ ix v, cL ix = some v → COk own ix v) {pc pc1 : Nat} {lv lv1 : List (Nat × Value)} {st st1 : List Value} {S S1 : sS}  (hi : lk code pc = some (.ladd)) (h : stp lay fL cL nL (.ladd) pc lv st S = some (pc1, lv1, st1, S1)) (kk : OkP p l e R s m args below meth c D lay nc ad ca nL cells slots Q pc1 lv1 st1 S1) : OkP p l e R s m args below meth c D lay nc ad ca nL cells slots Q pc lv st S := by
  unfold stp at h
  dsimp only at h
  split at h
  · cases h
    exact fun ls H locs hl B => lv_ladd G.1 G.2.1 (dOk_n hd hi rfl) (kk ls H locs hl B)
  · cases h
theorem so_lsub (G : CallFix p m c cc nL s args lw_good own) (hd : dOk cc code = true) (hlay : ∀ k, (lay k).1 < 7 → k < nc) (hfL : ∀ ix ci j b, fL ix = some (ci, j, b) → FOk own ix ci j b) (hcL : ∀ ix v, cL ix = some v → COk own ix v) {pc pc1 : Nat} {lv lv1 : List (Nat × Value)} {st st1 : List Value} {S S1 : sS}  (hi : lk code pc = some (.lsub)) (h : stp lay fL cL nL (.lsub) pc lv st S = some (pc1, lv1, st1, S1)) (kk : OkP p l e R s m args below meth c D lay nc ad ca nL cells slots Q pc1 lv1 st1 S1) : OkP p l e R s m args below meth c D lay nc ad ca nL cells slots Q pc lv st S := by
  unfold stp at h
  dsimp only at h
  split at h
  · cases h
    exact fun ls H locs hl B => lv_lsub G.1 G.2.1 (dOk_n hd hi rfl) (kk ls H locs hl B)
  · cases h
theorem so_lmul (G : CallFix p m c cc nL s args lw_good own) (hd : dOk cc code = true) (hlay : ∀ k, (lay k).1 < 7 → k < nc) (hfL : ∀ ix ci j b, fL ix = some (ci, j, b) → FOk own ix ci j b) (hcL : ∀ ix v, cL ix = some v → COk own ix v) {pc pc1 : Nat} {lv lv1 : List (Nat × Value)} {st st1 : List Value} {S S1 : sS}  (hi : lk code pc = some (.lmul)) (h : stp lay fL cL nL (.lmul) pc lv st S = some (pc1, lv1, st1, S1)) (kk : OkP p l e R s m args below meth c D lay nc ad ca nL cells slots Q pc1 lv1 st1 S1) : OkP p l e R s m args below meth c D lay nc ad ca nL cells slots Q pc lv st S := by
  unfold stp at h
  dsimp only at h
  split at h
  · cases h
    exact fun ls H locs hl B => lv_lmul G.1 G.2.1 (dOk_n hd hi rfl) (kk ls H locs hl B)
  · cases h
theorem so_land (G : CallFix p m c cc nL s args lw_good own) (hd : dOk cc code = true) (hlay : ∀ k, (lay k).1 < 7 → k < nc) (hfL : ∀ ix ci j b, fL ix = some (ci, j, b) → FOk own ix ci j b) (hcL : ∀ ix v, cL ix = some v → COk own ix v) {pc pc1 : Nat} {lv lv1 : List (Nat × Value)} {st st1 : List Value} {S S1 : sS}  (hi : lk code pc = some (.land)) (h : stp lay fL cL nL (.land) pc lv st S = some (pc1, lv1, st1, S1)) (kk : OkP p l e R s m args below meth c D lay nc ad ca nL cells slots Q pc1 lv1 st1 S1) : OkP p l e R s m args below meth c D lay nc ad ca nL cells slots Q pc lv st S := by
  unfold stp at h
  dsimp only at h
  split at h
  · cases h
    exact fun ls H locs hl B => lv_land G.1 G.2.1 (dOk_n hd hi rfl) (kk ls H locs hl B)
  · cases h
theorem so_lor (G : CallFix p m c cc nL s args lw_good own) (hd : dOk cc code = true) (hlay : ∀ k, (lay k).1 < 7 → k < nc) (hfL : ∀ ix ci j b, fL ix = some (ci, j, b) → FOk own ix ci j b) (hcL : ∀ ix v, cL ix = some v → COk own ix v) {pc pc1 : Nat} {lv lv1 : List (Nat × Value)} {st st1 : List Value} {S S1 : sS}  (hi : lk code pc = some (.lor)) (h : stp lay fL cL nL (.lor) pc lv st S = some (pc1, lv1, st1, S1)) (kk : OkP p l e R s m args below meth c D lay nc ad ca nL cells slots Q pc1 lv1 st1 S1) : OkP p l e R s m args below meth c D lay nc ad ca nL cells slots Q pc lv st S := by
  unfold stp at h
  dsimp only at h
  split at h
  · cases h
    exact fun ls H locs hl B => lv_lor G.1 G.2.1 (dOk_n hd hi rfl) (kk ls H locs hl B)
  · cases h
theorem so_idiv (G : CallFix p m c cc nL s args lw_good own) (hd : dOk cc code = true) (hlay : ∀ k, (lay k).1 < 7 → k < nc) (hfL : ∀ ix ci j b, fL ix = some (ci, j, b) → FOk own ix ci j b) (hcL : ∀ ix v, cL ix = some v → COk own ix v) {pc pc1 : Nat} {lv lv1 : List (Nat × Value)} {st st1 : List Value} {S S1 : sS}  (hi : lk code pc = some (.idiv)) (h : stp lay fL cL nL (.idiv) pc lv st S = some (pc1, lv1, st1, S1)) (kk : OkP p l e R s m args below meth c D lay nc ad ca nL cells slots Q pc1 lv1 st1 S1) : OkP p l e R s m args below meth c D lay nc ad ca nL cells slots Q pc lv st S := by
  unfold stp at h
  dsimp only at h
  split at h
  · obtain ⟨hb, h⟩ := bif_s h
    cases h
    exact fun ls H locs hl B => lv_idiv G.1 G.2.1 (dOk_n hd hi rfl) (of_decide_eq_true hb) (kk ls H locs hl B)
  · cases h
theorem so_irem (G : CallFix p m c cc nL s args lw_good own) (hd : dOk cc code = true) (hlay : ∀ k, (lay k).1 < 7 → k < nc) (hfL : ∀ ix ci j b, fL ix = some (ci, j, b) → FOk own ix ci j b) (hcL : ∀ ix v, cL ix = some v → COk own ix v) {pc pc1 : Nat} {lv lv1 : List (Nat × Value)} {st st1 : List Value} {S S1 : sS}  (hi : lk code pc = some (.irem)) (h : stp lay fL cL nL (.irem) pc lv st S = some (pc1, lv1, st1, S1)) (kk : OkP p l e R s m args below meth c D lay nc ad ca nL cells slots Q pc1 lv1 st1 S1) : OkP p l e R s m args below meth c D lay nc ad ca nL cells slots Q pc lv st S := by
  unfold stp at h
  dsimp only at h
  split at h
  · obtain ⟨hb, h⟩ := bif_s h
    cases h
    exact fun ls H locs hl B => lv_irem G.1 G.2.1 (dOk_n hd hi rfl) (of_decide_eq_true hb) (kk ls H locs hl B)
  · cases h
theorem so_ldiv (G : CallFix p m c cc nL s args lw_good own) (hd : dOk cc code = true) (hlay : ∀ k, (lay k).1 < 7 → k < nc) (hfL : ∀ ix ci j b, fL ix = some (ci, j, b) → FOk own ix ci j b) (hcL : ∀ ix v, cL ix = some v → COk own ix v) {pc pc1 : Nat} {lv lv1 : List (Nat × Value)} {st st1 : List Value} {S S1 : sS}  (hi : lk code pc = some (.ldiv)) (h : stp lay fL cL nL (.ldiv) pc lv st S = some (pc1, lv1, st1, S1)) (kk : OkP p l e R s m args below meth c D lay nc ad ca nL cells slots Q pc1 lv1 st1 S1) : OkP p l e R s m args below meth c D lay nc ad ca nL cells slots Q pc lv st S := by
  unfold stp at h
  dsimp only at h
  split at h
  · obtain ⟨hb, h⟩ := bif_s h
    cases h
    exact fun ls H locs hl B => lv_ldiv G.1 G.2.1 (dOk_n hd hi rfl) (of_decide_eq_true hb) (kk ls H locs hl B)
  · cases h
theorem so_lrem (G : CallFix p m c cc nL s args lw_good own) (hd : dOk cc code = true) (hlay : ∀ k, (lay k).1 < 7 → k < nc) (hfL : ∀ ix ci j b, fL ix = some (ci, j, b) → FOk own ix ci j b) (hcL : ∀ ix v, cL ix = some v → COk own ix v) {pc pc1 : Nat} {lv lv1 : List (Nat × Value)} {st st1 : List Value} {S S1 : sS}  (hi : lk code pc = some (.lrem)) (h : stp lay fL cL nL (.lrem) pc lv st S = some (pc1, lv1, st1, S1)) (kk : OkP p l e R s m args below meth c D lay nc ad ca nL cells slots Q pc1 lv1 st1 S1) : OkP p l e R s m args below meth c D lay nc ad ca nL cells slots Q pc lv st S := by
  unfold stp at h
  dsimp only at h
  split at h
  · obtain ⟨hb, h⟩ := bif_s h
    cases h
    exact fun ls H locs hl B => lv_lrem G.1 G.2.1 (dOk_n hd hi rfl) (of_decide_eq_true hb) (kk ls H locs hl B)
  · cases h
theorem so_lushr (G : CallFix p m c cc nL s args lw_good own) (hd : dOk cc code = true) (hlay : ∀ k, (lay k).1 < 7 → k < nc) (hfL : ∀ ix ci j b, fL ix = some (ci, j, b) → FOk own ix ci j b) (hcL : ∀ ix v, cL ix = some v → COk own ix v) {pc pc1 : Nat} {lv lv1 : List (Nat × Value)} {st st1 : List Value} {S S1 : sS}  (hi : lk code pc = some (.lushr)) (h : stp lay fL cL nL (.lushr) pc lv st S = some (pc1, lv1, st1, S1)) (kk : OkP p l e R s m args below meth c D lay nc ad ca nL cells slots Q pc1 lv1 st1 S1) : OkP p l e R s m args below meth c D lay nc ad ca nL cells slots Q pc lv st S := by
  unfold stp at h
  dsimp only at h
  split at h
  · cases h
    exact fun ls H locs hl B => lv_lushr G.1 G.2.1 (dOk_n hd hi rfl) rfl (kk ls H locs hl B)
  · cases h
theorem so_lshl (G : CallFix p m c cc nL s args lw_good own) (hd : dOk cc code = true) (hlay : ∀ k, (lay k).1 < 7 → k < nc) (hfL : ∀ ix ci j b, fL ix = some (ci, j, b) → FOk own ix ci j b) (hcL : ∀ ix v, cL ix = some v → COk own ix v) {pc pc1 : Nat} {lv lv1 : List (Nat × Value)} {st st1 : List Value} {S S1 : sS}  (hi : lk code pc = some (.lshl)) (h : stp lay fL cL nL (.lshl) pc lv st S = some (pc1, lv1, st1, S1)) (kk : OkP p l e R s m args below meth c D lay nc ad ca nL cells slots Q pc1 lv1 st1 S1) : OkP p l e R s m args below meth c D lay nc ad ca nL cells slots Q pc lv st S := by
  unfold stp at h
  dsimp only at h
  split at h
  · cases h
    exact fun ls H locs hl B => lv_lshl G.1 G.2.1 (dOk_n hd hi rfl) rfl (kk ls H locs hl B)
  · cases h
theorem so_lshr (G : CallFix p m c cc nL s args lw_good own) (hd : dOk cc code = true) (hlay : ∀ k, (lay k).1 < 7 → k < nc) (hfL : ∀ ix ci j b, fL ix = some (ci, j, b) → FOk own ix ci j b) (hcL : ∀ ix v, cL ix = some v → COk own ix v) {pc pc1 : Nat} {lv lv1 : List (Nat × Value)} {st st1 : List Value} {S S1 : sS}  (hi : lk code pc = some (.lshr)) (h : stp lay fL cL nL (.lshr) pc lv st S = some (pc1, lv1, st1, S1)) (kk : OkP p l e R s m args below meth c D lay nc ad ca nL cells slots Q pc1 lv1 st1 S1) : OkP p l e R s m args below meth c D lay nc ad ca nL cells slots Q pc lv st S := by
  unfold stp at h
  dsimp only at h
  split at h
  · cases h
    exact fun ls H locs hl B => lv_lshr G.1 G.2.1 (dOk_n hd hi rfl) rfl (kk ls H locs hl B)
  · cases h
theorem so_i2l (G : CallFix p m c cc nL s args lw_good own) (hd : dOk cc code = true) (hlay : ∀ k, (lay k).1 < 7 → k < nc) (hfL : ∀ ix ci j b, fL ix = some (ci, j, b) → FOk own ix ci j b) (hcL : ∀ ix v, cL ix = some v → COk own ix v) {pc pc1 : Nat} {lv lv1 : List (Nat × Value)} {st st1 : List Value} {S S1 : sS}  (hi : lk code pc = some (.i2l)) (h : stp lay fL cL nL (.i2l) pc lv st S = some (pc1, lv1, st1, S1)) (kk : OkP p l e R s m args below meth c D lay nc ad ca nL cells slots Q pc1 lv1 st1 S1) : OkP p l e R s m args below meth c D lay nc ad ca nL cells slots Q pc lv st S := by
  unfold stp at h
  dsimp only at h
  split at h
  · cases h
    exact fun ls H locs hl B => lv_i2l G.1 G.2.1 (dOk_n hd hi rfl) rfl (kk ls H locs hl B)
  · cases h
theorem so_l2i (G : CallFix p m c cc nL s args lw_good own) (hd : dOk cc code = true) (hlay : ∀ k, (lay k).1 < 7 → k < nc) (hfL : ∀ ix ci j b, fL ix = some (ci, j, b) → FOk own ix ci j b) (hcL : ∀ ix v, cL ix = some v → COk own ix v) {pc pc1 : Nat} {lv lv1 : List (Nat × Value)} {st st1 : List Value} {S S1 : sS}  (hi : lk code pc = some (.l2i)) (h : stp lay fL cL nL (.l2i) pc lv st S = some (pc1, lv1, st1, S1)) (kk : OkP p l e R s m args below meth c D lay nc ad ca nL cells slots Q pc1 lv1 st1 S1) : OkP p l e R s m args below meth c D lay nc ad ca nL cells slots Q pc lv st S := by
  unfold stp at h
  dsimp only at h
  split at h
  · cases h
    exact fun ls H locs hl B => lv_l2i G.1 G.2.1 (dOk_n hd hi rfl) rfl (kk ls H locs hl B)
  · cases h
theorem so_i2b (G : CallFix p m c cc nL s args lw_good own) (hd : dOk cc code = true) (hlay : ∀ k, (lay k).1 < 7 → k < nc) (hfL : ∀ ix ci j b, fL ix = some (ci, j, b) → FOk own ix ci j b) (hcL : ∀ ix v, cL ix = some v → COk own ix v) {pc pc1 : Nat} {lv lv1 : List (Nat × Value)} {st st1 : List Value} {S S1 : sS}  (hi : lk code pc = some (.i2b)) (h : stp lay fL cL nL (.i2b) pc lv st S = some (pc1, lv1, st1, S1)) (kk : OkP p l e R s m args below meth c D lay nc ad ca nL cells slots Q pc1 lv1 st1 S1) : OkP p l e R s m args below meth c D lay nc ad ca nL cells slots Q pc lv st S := by
  unfold stp at h
  dsimp only at h
  split at h
  · cases h
    exact fun ls H locs hl B => lv_i2b G.1 G.2.1 (dOk_n hd hi rfl) rfl (kk ls H locs hl B)
  · cases h
theorem so_i2c (G : CallFix p m c cc nL s args lw_good own) (hd : dOk cc code = true) (hlay : ∀ k, (lay k).1 < 7 → k < nc) (hfL : ∀ ix ci j b, fL ix = some (ci, j, b) → FOk own ix ci j b) (hcL : ∀ ix v, cL ix = some v → COk own ix v) {pc pc1 : Nat} {lv lv1 : List (Nat × Value)} {st st1 : List Value} {S S1 : sS}  (hi : lk code pc = some (.i2c)) (h : stp lay fL cL nL (.i2c) pc lv st S = some (pc1, lv1, st1, S1)) (kk : OkP p l e R s m args below meth c D lay nc ad ca nL cells slots Q pc1 lv1 st1 S1) : OkP p l e R s m args below meth c D lay nc ad ca nL cells slots Q pc lv st S := by
  unfold stp at h
  dsimp only at h
  split at h
  · cases h
    exact fun ls H locs hl B => lv_i2c G.1 G.2.1 (dOk_n hd hi rfl) rfl (kk ls H locs hl B)
  · cases h
theorem so_iushr (G : CallFix p m c cc nL s args lw_good own) (hd : dOk cc code = true) (hlay : ∀ k, (lay k).1 < 7 → k < nc) (hfL : ∀ ix ci j b, fL ix = some (ci, j, b) → FOk own ix ci j b) (hcL : ∀ ix v, cL ix = some v → COk own ix v) {pc pc1 : Nat} {lv lv1 : List (Nat × Value)} {st st1 : List Value} {S S1 : sS}  (hi : lk code pc = some (.iushr)) (h : stp lay fL cL nL (.iushr) pc lv st S = some (pc1, lv1, st1, S1)) (kk : OkP p l e R s m args below meth c D lay nc ad ca nL cells slots Q pc1 lv1 st1 S1) : OkP p l e R s m args below meth c D lay nc ad ca nL cells slots Q pc lv st S := by
  unfold stp at h
  dsimp only at h
  split at h
  · cases h
    exact fun ls H locs hl B => lv_iushr G.1 G.2.1 (dOk_n hd hi rfl) rfl (kk ls H locs hl B)
  · cases h
theorem so_lcmp (G : CallFix p m c cc nL s args lw_good own) (hd : dOk cc code = true) (hlay : ∀ k, (lay k).1 < 7 → k < nc) (hfL : ∀ ix ci j b, fL ix = some (ci, j, b) → FOk own ix ci j b) (hcL : ∀ ix v, cL ix = some v → COk own ix v) {pc pc1 : Nat} {lv lv1 : List (Nat × Value)} {st st1 : List Value} {S S1 : sS}  (hi : lk code pc = some (.lcmp)) (h : stp lay fL cL nL (.lcmp) pc lv st S = some (pc1, lv1, st1, S1)) (kk : OkP p l e R s m args below meth c D lay nc ad ca nL cells slots Q pc1 lv1 st1 S1) : OkP p l e R s m args below meth c D lay nc ad ca nL cells slots Q pc lv st S := by
  unfold stp at h
  dsimp only at h
  split at h
  · cases h
    exact fun ls H locs hl B => W.lcmp G.1 G.2.1 (dOk_n hd hi rfl) (kk ls H locs hl B)
  · cases h
theorem so_dup (G : CallFix p m c cc nL s args lw_good own) (hd : dOk cc code = true) (hlay : ∀ k, (lay k).1 < 7 → k < nc) (hfL : ∀ ix ci j b, fL ix = some (ci, j, b) → FOk own ix ci j b) (hcL : ∀ ix v, cL ix = some v → COk own ix v) {pc pc1 : Nat} {lv lv1 : List (Nat × Value)} {st st1 : List Value} {S S1 : sS}  (hi : lk code pc = some (.dup)) (h : stp lay fL cL nL (.dup) pc lv st S = some (pc1, lv1, st1, S1)) (kk : OkP p l e R s m args below meth c D lay nc ad ca nL cells slots Q pc1 lv1 st1 S1) : OkP p l e R s m args below meth c D lay nc ad ca nL cells slots Q pc lv st S := by
  unfold stp at h
  dsimp only at h
  split at h
  · obtain ⟨hb, h⟩ := bif_s h
    cases h
    exact fun ls H locs hl B => lv_dup G.1 G.2.1 (dOk_n hd hi rfl) (trV_cat.trans (Nat.eq_of_beq_eq_true hb)) (kk ls H locs hl B)
  · cases h
theorem so_pop (G : CallFix p m c cc nL s args lw_good own) (hd : dOk cc code = true) (hlay : ∀ k, (lay k).1 < 7 → k < nc) (hfL : ∀ ix ci j b, fL ix = some (ci, j, b) → FOk own ix ci j b) (hcL : ∀ ix v, cL ix = some v → COk own ix v) {pc pc1 : Nat} {lv lv1 : List (Nat × Value)} {st st1 : List Value} {S S1 : sS}  (hi : lk code pc = some (.pop)) (h : stp lay fL cL nL (.pop) pc lv st S = some (pc1, lv1, st1, S1)) (kk : OkP p l e R s m args below meth c D lay nc ad ca nL cells slots Q pc1 lv1 st1 S1) : OkP p l e R s m args below meth c D lay nc ad ca nL cells slots Q pc lv st S := by
  unfold stp at h
  dsimp only at h
  split at h
  · obtain ⟨hb, h⟩ := bif_s h
    cases h
    exact fun ls H locs hl B => lv_pop G.1 G.2.1 (dOk_n hd hi rfl) (trV_cat.trans (Nat.eq_of_beq_eq_true hb)) (kk ls H locs hl B)
  · cases h
theorem so_dup2 (G : CallFix p m c cc nL s args lw_good own) (hd : dOk cc code = true) (hlay : ∀ k, (lay k).1 < 7 → k < nc) (hfL : ∀ ix ci j b, fL ix = some (ci, j, b) → FOk own ix ci j b) (hcL : ∀ ix v, cL ix = some v → COk own ix v) {pc pc1 : Nat} {lv lv1 : List (Nat × Value)} {st st1 : List Value} {S S1 : sS}  (hi : lk code pc = some (.dup2)) (h : stp lay fL cL nL (.dup2) pc lv st S = some (pc1, lv1, st1, S1)) (kk : OkP p l e R s m args below meth c D lay nc ad ca nL cells slots Q pc1 lv1 st1 S1) : OkP p l e R s m args below meth c D lay nc ad ca nL cells slots Q pc lv st S := by
  unfold stp at h
  dsimp only at h
  split at h
  · obtain ⟨hb, h⟩ := bif_s h
    rw [Bool.and_eq_true] at hb
    cases h
    exact fun ls H locs hl B => lv_dup2_11 G.1 G.2.1 (dOk_n hd hi rfl) (trV_cat.trans (Nat.eq_of_beq_eq_true hb.1)) (trV_cat.trans (Nat.eq_of_beq_eq_true hb.2)) (kk ls H locs hl B)
  · cases h
theorem so_ifCond (G : CallFix p m c cc nL s args lw_good own) (hd : dOk cc code = true) (hlay : ∀ k, (lay k).1 < 7 → k < nc) (hfL : ∀ ix ci j b, fL ix = some (ci, j, b) → FOk own ix ci j b) (hcL : ∀ ix v, cL ix = some v → COk own ix v) {pc pc1 : Nat} {lv lv1 : List (Nat × Value)} {st st1 : List Value} {S S1 : sS} {cn : Jvm.ClassFile.Cond} {off : Int} (hi : lk code pc = some (.ifCond cn off)) (h : stp lay fL cL nL (.ifCond cn off) pc lv st S = some (pc1, lv1, st1, S1)) (kk : OkP p l e R s m args below meth c D lay nc ad ca nL cells slots Q pc1 lv1 st1 S1) : OkP p l e R s m args below meth c D lay nc ad ca nL cells slots Q pc lv st S := by
  unfold stp at h
  dsimp only at h
  split at h
  · next x r =>
    split at h
    · next t ht =>
      cases hc : cnd cn x 0 with
      | true =>
        rw [hc] at h
        cases h
        exact fun ls H locs hl B => w_if G.1 G.2.1 (dOk_n hd hi rfl) (jm_at ht) (fun _ => kk ls H locs hl B) (fun q => by rw [hc] at q; cases q)
      | false =>
        rw [hc] at h
        cases h
        exact fun ls H locs hl B => w_if G.1 G.2.1 (dOk_n hd hi rfl) (jm_at ht) (fun q => by rw [hc] at q; cases q) (fun _ => kk ls H locs hl B)
    · cases h
  · cases h
theorem so_if_icmp (G : CallFix p m c cc nL s args lw_good own) (hd : dOk cc code = true) (hlay : ∀ k, (lay k).1 < 7 → k < nc) (hfL : ∀ ix ci j b, fL ix = some (ci, j, b) → FOk own ix ci j b) (hcL : ∀ ix v, cL ix = some v → COk own ix v) {pc pc1 : Nat} {lv lv1 : List (Nat × Value)} {st st1 : List Value} {S S1 : sS} {cn : Jvm.ClassFile.Cond} {off : Int} (hi : lk code pc = some (.if_icmp cn off)) (h : stp lay fL cL nL (.if_icmp cn off) pc lv st S = some (pc1, lv1, st1, S1)) (kk : OkP p l e R s m args below meth c D lay nc ad ca nL cells slots Q pc1 lv1 st1 S1) : OkP p l e R s m args below meth c D lay nc ad ca nL cells slots Q pc lv st S := by
  unfold stp at h
  dsimp only at h
  split at h
  · next y x r =>
    split at h
    · next t ht =>
      cases hc : cnd cn x y with
      | true =>
        rw [hc] at h
        cases h
        exact fun ls H locs hl B => w_icmp G.1 G.2.1 (dOk_n hd hi rfl) (jm_at ht) (fun _ => kk ls H locs hl B) (fun q => by rw [hc] at q; cases q)
      | false =>
        rw [hc] at h
        cases h
        exact fun ls H locs hl B => w_icmp G.1 G.2.1 (dOk_n hd hi rfl) (jm_at ht) (fun q => by rw [hc] at q; cases q) (fun _ => kk ls H locs hl B)
    · cases h
  · cases h
theorem so_goto (G : CallFix p m c cc nL s args lw_good own) (hd : dOk cc code = true) (hlay : ∀ k, (lay k).1 < 7 → k < nc) (hfL : ∀ ix ci j b, fL ix = some (ci, j, b) → FOk own ix ci j b) (hcL : ∀ ix v, cL ix = some v → COk own ix v) {pc pc1 : Nat} {lv lv1 : List (Nat × Value)} {st st1 : List Value} {S S1 : sS} {off : Int} (hi : lk code pc = some (.goto off)) (h : stp lay fL cL nL (.goto off) pc lv st S = some (pc1, lv1, st1, S1)) (kk : OkP p l e R s m args below meth c D lay nc ad ca nL cells slots Q pc1 lv1 st1 S1) : OkP p l e R s m args below meth c D lay nc ad ca nL cells slots Q pc lv st S := by
  unfold stp at h
  dsimp only at h
  split at h
  · next t ht =>
    cases h
    exact fun ls H locs hl B => lv_goto G.1 G.2.1 (dOk_n hd hi rfl) (jm_at ht) (kk ls H locs hl B)
  · cases h
theorem so_tableswitch (G : CallFix p m c cc nL s args lw_good own) (hd : dOk cc code = true) (hlay : ∀ k, (lay k).1 < 7 → k < nc) (hfL : ∀ ix ci j b, fL ix = some (ci, j, b) → FOk own ix ci j b) (hcL : ∀ ix v, cL ix = some v → COk own ix v) {pc pc1 : Nat} {lv lv1 : List (Nat × Value)} {st st1 : List Value} {S S1 : sS} {d : Int} {lo : Int} {hh : Int} {offs : Array Int} (hi : lk code pc = some (.tableswitch d lo hh offs)) (h : stp lay fL cL nL (.tableswitch d lo hh offs) pc lv st S = some (pc1, lv1, st1, S1)) (kk : OkP p l e R s m args below meth c D lay nc ad ca nL cells slots Q pc1 lv1 st1 S1) : OkP p l e R s m args below meth c D lay nc ad ca nL cells slots Q pc lv st S := by
  unfold stp at h
  dsimp only at h
  obtain ⟨n, hdg, -⟩ := dOk_at hd hi
  split at h
  · next x r =>
    cases hc : decide (x.toInt < lo ∨ hh < x.toInt) with
    | true =>
      rw [hc] at h
      dsimp only [cond_true] at h
      split at h
      · next t ht =>
        cases h
        exact fun ls H locs hl B => lv_tableOut G.1 G.2.1 hdg (of_decide_eq_true hc) (jm_at ht) (kk ls H locs hl B)
      · cases h
    | false =>
      rw [hc] at h
      dsimp only [cond_false] at h
      have hn := of_decide_eq_false hc
      split at h
      · next o ho =>
        split at h
        · next t ht =>
          cases h
          exact fun ls H locs hl B => lv_tableIn G.1 G.2.1 hdg (fun q => hn (Or.inl q)) (fun q => hn (Or.inr q)) ho (jm_at ht) (kk ls H locs hl B)
        · cases h
      · cases h
  · cases h
theorem so_lookupswitch (G : CallFix p m c cc nL s args lw_good own) (hd : dOk cc code = true) (hlay : ∀ k, (lay k).1 < 7 → k < nc) (hfL : ∀ ix ci j b, fL ix = some (ci, j, b) → FOk own ix ci j b) (hcL : ∀ ix v, cL ix = some v → COk own ix v) {pc pc1 : Nat} {lv lv1 : List (Nat × Value)} {st st1 : List Value} {S S1 : sS} {d : Int} {ps : Array (Int × Int)} (hi : lk code pc = some (.lookupswitch d ps)) (h : stp lay fL cL nL (.lookupswitch d ps) pc lv st S = some (pc1, lv1, st1, S1)) (kk : OkP p l e R s m args below meth c D lay nc ad ca nL cells slots Q pc1 lv1 st1 S1) : OkP p l e R s m args below meth c D lay nc ad ca nL cells slots Q pc lv st S := by
  unfold stp at h
  dsimp only at h
  obtain ⟨n, hdg, -⟩ := dOk_at hd hi
  split at h
  · next x r =>
    obtain ⟨hb, h⟩ := bif_s h
    split at h
    · next t ht =>
      cases h
      exact fun ls H locs hl B => lv_lookup G.1 G.2.1 hdg hb rfl (jm_at ht) (kk ls H locs hl B)
    · cases h
  · cases h
theorem so_getfield (G : CallFix p m c cc nL s args lw_good own) (hd : dOk cc code = true) (hlay : ∀ k, (lay k).1 < 7 → k < nc) (hfL : ∀ ix ci j b, fL ix = some (ci, j, b) → FOk own ix ci j b) (hcL : ∀ ix v, cL ix = some v → COk own ix v) {pc pc1 : Nat} {lv lv1 : List (Nat × Value)} {st st1 : List Value} {S S1 : sS} {ix : Nat} (hi : lk code pc = some (.getfield ix)) (h : stp lay fL cL nL (.getfield ix) pc lv st S = some (pc1, lv1, st1, S1)) (kk : OkP p l e R s m args below meth c D lay nc ad ca nL cells slots Q pc1 lv1 st1 S1) : OkP p l e R s m args below meth c D lay nc ad ca nL cells slots Q pc lv st S := by
  unfold stp at h
  dsimp only at h
  split at h
  · next k r =>
    split at h
    · next ci j b hf =>
      cases h90 : Nat.blt ci 90 with
      | true =>
        rw [h90] at h
        obtain ⟨hb, h⟩ := bif_s (show (bif layIs lay k 0 ci then _ else none) = some _ from h)
        cases h
        obtain ⟨C, T, N, hc, hin, hN, hj, -, -, hlk⟩ := (hfL _ _ _ _ hf).own h90
        have hlk0 := layIs_at hb
        have hk := hlay k (by rw [hlk0]; exact Nat.zero_lt_succ 6)
        cases b with
        | false => exact fun ls H locs hl B => r_get G B hc hin hN hlk0 hk hj hlk sv_sV (dOk_n hd hi rfl) (kk ls H locs hl B)
        | true =>
          obtain ⟨host, hho⟩ := hlk
          exact fun ls H locs hl B => r_getN G B hc hin hN hlk0 hk hj hho sv_sV (dOk_n hd hi rfl) (kk ls H locs hl B)
      | false =>
        rw [h90] at h
        obtain ⟨hb, h⟩ := bif_s (show (bif Nat.beq ci 90 && (Nat.ble SB k && (strT[k - SB]?).isSome) then _ else none) = some _ from h)
        rw [Bool.and_eq_true, Bool.and_eq_true] at hb
        cases h
        obtain ⟨q0, hq0⟩ := Option.isSome_iff_exists.mp hb.2.2
        have hci := Nat.eq_of_beq_eq_true hb.1
        have hkk := Nat.add_sub_cancel' (Nat.le_of_ble_eq_true hb.2.1)
        intro ls H locs hl B
        obtain ⟨-, -, hcod, hval, -⟩ := B.2.2.2.2.2.2.2 _ q0 hq0
        rw [hkk] at hcod hval
        rcases hfL _ _ _ _ hf with ⟨g, -⟩ | ⟨-, rfl, g⟩ | ⟨-, rfl, g⟩ | ⟨g, -⟩
        · omega
        · exact vk_getf G.1 G.2.1 hval B.2.2.2.1 G.2.2.2.1 (G.2.2.2.2 _ g) (fun _ z => z) (dOk_n hd hi rfl) (kk ls H locs hl B)
        · exact vk_getf G.1 G.2.1 hcod B.2.2.2.1 G.2.2.2.1 (G.2.2.2.2 _ g) (fun _ z => z) (dOk_n hd hi rfl) (kk ls H locs hl B)
        · omega
    · cases h
  · cases h
theorem so_getstatic (G : CallFix p m c cc nL s args lw_good own) (hd : dOk cc code = true) (hlay : ∀ k, (lay k).1 < 7 → k < nc) (hfL : ∀ ix ci j b, fL ix = some (ci, j, b) → FOk own ix ci j b) (hcL : ∀ ix v, cL ix = some v → COk own ix v) {pc pc1 : Nat} {lv lv1 : List (Nat × Value)} {st st1 : List Value} {S S1 : sS} {ix : Nat} (hi : lk code pc = some (.getstatic ix)) (h : stp lay fL cL nL (.getstatic ix) pc lv st S = some (pc1, lv1, st1, S1)) (kk : OkP p l e R s m args below meth c D lay nc ad ca nL cells slots Q pc1 lv1 st1 S1) : OkP p l e R s m args below meth c D lay nc ad ca nL cells slots Q pc lv st S := by
  unfold stp at h
  dsimp only at h
  split at h
  · next ci j b hf =>
    obtain ⟨hb, h⟩ := bif_s h
    cases h
    have hci := Nat.eq_of_beq_eq_true hb
    intro ls H locs hl B
    rcases hfL _ _ _ _ hf with ⟨g, -⟩ | ⟨g, -⟩ | ⟨g, -⟩ | ⟨-, g⟩
    · omega
    · omega
    · omega
    · exact va_gets G.1 G.2.1 B.2.2.2.2.2.1 B.2.2.2.1 G.2.2.2.1 (G.2.2.2.2 _ g) (fun _ z => z) (dOk_n hd hi rfl) (kk ls H locs hl B)
  · cases h
theorem so_putfield (G : CallFix p m c cc nL s args lw_good own) (hd : dOk cc code = true) (hlay : ∀ k, (lay k).1 < 7 → k < nc) (hfL : ∀ ix ci j b, fL ix = some (ci, j, b) → FOk own ix ci j b) (hcL : ∀ ix v, cL ix = some v → COk own ix v) {pc pc1 : Nat} {lv lv1 : List (Nat × Value)} {st st1 : List Value} {S S1 : sS} {ix : Nat} (hi : lk code pc = some (.putfield ix)) (h : stp lay fL cL nL (.putfield ix) pc lv st S = some (pc1, lv1, st1, S1)) (kk : OkP p l e R s m args below meth c D lay nc ad ca nL cells slots Q pc1 lv1 st1 S1) : OkP p l e R s m args below meth c D lay nc ad ca nL cells slots Q pc lv st S := by
  unfold stp at h
  dsimp only at h
  split at h
  · next v k r =>
    split at h
    · next ci j hf =>
      obtain ⟨hb, h⟩ := bif_s h
      rw [Bool.and_eq_true] at hb
      obtain ⟨h90, hb⟩ := hb
      rw [Bool.and_eq_true] at hb
      obtain ⟨C, T, N, hc, hin, hN, hj, hty, hnm, hlk⟩ := (hfL _ _ _ _ hf).own h90
      have hlk0 := layIs_at hb.1
      have hk := hlay k (by rw [hlk0]; exact Nat.zero_lt_succ 6)
      have hfin : (T j).2.2.2 = false := by
        have q := hb.2
        unfold gF at q
        rw [hc] at q
        simpa using q
      split at h
      · next S2 hp =>
        cases h
        unfold pF at hp
        split at hp
        · next x hfx =>
          cases hp
          exact fun ls H locs hl B => r_putI G B hty hnm hc hin hN hlk0 hk hj hlk hfin (by rw [hfx]; rfl) (by rw [hfx]; rfl) (by rw [hfx]; rfl) (dOk_n hd hi rfl) (fun H1 locs1 B1 => kk ls H1 locs1 hl B1)
        · next x hfx =>
          obtain ⟨hx, hp⟩ := bif_s hp
          cases hp
          have hx := of_decide_eq_true hx
          exact fun ls H locs hl B => r_putI G B hty hnm hc hin hN hlk0 hk hj hlk hfin (by rw [hfx]; rfl) (by rw [hfx]; rcases hx with rfl | rfl <;> rfl) (by rw [hfx]; rcases hx with rfl | rfl <;> rfl) (dOk_n hd hi rfl) (fun H1 locs1 B1 => kk ls H1 locs1 hl B1)
        · next t a hfx =>
          cases hp
          exact fun ls H locs hl B => r_putR (v := some a) G B hty hnm hc hin hN hlk0 hk hj hlk hfin (by rw [hfx]; rfl) (by rw [hfx]; rfl) (by rw [hfx]; rfl) (dOk_n hd hi rfl) (fun H1 locs1 B1 => kk ls H1 locs1 hl B1)
        · next t hfx =>
          cases hp
          exact fun ls H locs hl B => r_putR (v := none) G B hty hnm hc hin hN hlk0 hk hj hlk hfin (by rw [hfx]; rfl) (by rw [hfx]; rfl) (by rw [hfx]; rfl) (dOk_n hd hi rfl) (fun H1 locs1 B1 => kk ls H1 locs1 hl B1)
        · cases hp
      · cases h
    · cases h
  · cases h
theorem so_iaload (G : CallFix p m c cc nL s args lw_good own) (hd : dOk cc code = true) (hlay : ∀ k, (lay k).1 < 7 → k < nc) (hfL : ∀ ix ci j b, fL ix = some (ci, j, b) → FOk own ix ci j b) (hcL : ∀ ix v, cL ix = some v → COk own ix v) {pc pc1 : Nat} {lv lv1 : List (Nat × Value)} {st st1 : List Value} {S S1 : sS}  (hi : lk code pc = some (.iaload)) (h : stp lay fL cL nL (.iaload) pc lv st S = some (pc1, lv1, st1, S1)) (kk : OkP p l e R s m args below meth c D lay nc ad ca nL cells slots Q pc1 lv1 st1 S1) : OkP p l e R s m args below meth c D lay nc ad ca nL cells slots Q pc lv st S := by
  unfold stp at h
  dsimp only at h
  split at h
  · next x k r =>
    obtain ⟨hb, h⟩ := bif_s h
    rw [Bool.and_eq_true] at hb
    cases h
    have hl0 := lay_tag hb.1
    have hk := hlay k (by rw [hl0]; simp)
    exact fun ls H locs hl B => r_iald G B hl0 hk (inb_at hb.2) (dOk_n hd hi rfl) (kk ls H locs hl B)
  · cases h
theorem so_laload (G : CallFix p m c cc nL s args lw_good own) (hd : dOk cc code = true) (hlay : ∀ k, (lay k).1 < 7 → k < nc) (hfL : ∀ ix ci j b, fL ix = some (ci, j, b) → FOk own ix ci j b) (hcL : ∀ ix v, cL ix = some v → COk own ix v) {pc pc1 : Nat} {lv lv1 : List (Nat × Value)} {st st1 : List Value} {S S1 : sS}  (hi : lk code pc = some (.laload)) (h : stp lay fL cL nL (.laload) pc lv st S = some (pc1, lv1, st1, S1)) (kk : OkP p l e R s m args below meth c D lay nc ad ca nL cells slots Q pc1 lv1 st1 S1) : OkP p l e R s m args below meth c D lay nc ad ca nL cells slots Q pc lv st S := by
  unfold stp at h
  dsimp only at h
  split at h
  · next x k r =>
    obtain ⟨hb, h⟩ := bif_s h
    rw [Bool.and_eq_true] at hb
    cases h
    have hl0 := lay_tag hb.1
    have hk := hlay k (by rw [hl0]; simp)
    exact fun ls H locs hl B => r_lald G B hl0 hk (inb_at hb.2) (dOk_n hd hi rfl) (kk ls H locs hl B)
  · cases h
theorem so_baload (G : CallFix p m c cc nL s args lw_good own) (hd : dOk cc code = true) (hlay : ∀ k, (lay k).1 < 7 → k < nc) (hfL : ∀ ix ci j b, fL ix = some (ci, j, b) → FOk own ix ci j b) (hcL : ∀ ix v, cL ix = some v → COk own ix v) {pc pc1 : Nat} {lv lv1 : List (Nat × Value)} {st st1 : List Value} {S S1 : sS}  (hi : lk code pc = some (.baload)) (h : stp lay fL cL nL (.baload) pc lv st S = some (pc1, lv1, st1, S1)) (kk : OkP p l e R s m args below meth c D lay nc ad ca nL cells slots Q pc1 lv1 st1 S1) : OkP p l e R s m args below meth c D lay nc ad ca nL cells slots Q pc lv st S := by
  unfold stp at h
  dsimp only at h
  split at h
  · next x k r =>
    cases hsv : Nat.ble SV k with
    | true =>
      rw [hsv] at h
      dsimp only [cond_true] at h
      split at h
      · next q hq =>
        obtain ⟨hb, h⟩ := bif_s h
        cases h
        intro ls H locs hl B
        have hT := (B.2.2.2.2.2.2.2 _ q hq).2.2.2.2
        rw [Nat.add_sub_cancel' (Nat.le_of_ble_eq_true hsv)] at hT
        exact va_tb G.1 G.2.1 hT B.2.2.2.1 (inb_at hb) rfl (dOk_n hd hi rfl) (kk ls H locs hl B)
      · cases h
    | false =>
      rw [hsv] at h
      obtain ⟨hb, h⟩ := bif_s (show (bif (Nat.beq (lay k).1 3 || Nat.beq (lay k).1 4) && inb x (lay k).2 then _ else none) = some _ from h)
      rw [Bool.and_eq_true, Bool.or_eq_true] at hb
      cases h
      rcases hb.1 with q | q
      · have hl0 := lay_tag q
        have hk := hlay k (by rw [hl0]; simp)
        exact fun ls H locs hl B => r_bald G B hl0 hk (inb_at hb.2) (dOk_n hd hi rfl) (kk ls H locs hl B)
      · have hl0 := lay_tag q
        have hk := hlay k (by rw [hl0]; simp)
        exact fun ls H locs hl B => r_zald G B hl0 hk (inb_at hb.2) (dOk_n hd hi rfl) (kk ls H locs hl B)
  · cases h
theorem so_aaload (G : CallFix p m c cc nL s args lw_good own) (hd : dOk cc code = true) (hlay : ∀ k, (lay k).1 < 7 → k < nc) (hfL : ∀ ix ci j b, fL ix = some (ci, j, b) → FOk own ix ci j b) (hcL : ∀ ix v, cL ix = some v → COk own ix v) {pc pc1 : Nat} {lv lv1 : List (Nat × Value)} {st st1 : List Value} {S S1 : sS}  (hi : lk code pc = some (.aaload)) (h : stp lay fL cL nL (.aaload) pc lv st S = some (pc1, lv1, st1, S1)) (kk : OkP p l e R s m args below meth c D lay nc ad ca nL cells slots Q pc1 lv1 st1 S1) : OkP p l e R s m args below meth c D lay nc ad ca nL cells slots Q pc lv st S := by
  unfold stp at h
  dsimp only at h
  split at h
  · next x k r =>
    obtain ⟨hb, h⟩ := bif_s h
    rw [Bool.and_eq_true, Bool.or_eq_true] at hb
    cases h
    have hk : k < nc := by
      rcases hb.1 with q | q
      · exact hlay k (by rw [Nat.eq_of_beq_eq_true q]; simp)
      · exact hlay k (by rw [Nat.eq_of_beq_eq_true q]; simp)
    exact fun ls H locs hl B => r_aald (n := (lay k).2) G B (hb.1.elim (fun q => Or.inl (lay_tag q)) (fun q => Or.inr (lay_tag q))) hk (inb_at hb.2) (dOk_n hd hi rfl) (by rw [← trV_rv]; exact kk ls H locs hl B)
  · cases h
theorem so_iastore (G : CallFix p m c cc nL s args lw_good own) (hd : dOk cc code = true) (hlay : ∀ k, (lay k).1 < 7 → k < nc) (hfL : ∀ ix ci j b, fL ix = some (ci, j, b) → FOk own ix ci j b) (hcL : ∀ ix v, cL ix = some v → COk own ix v) {pc pc1 : Nat} {lv lv1 : List (Nat × Value)} {st st1 : List Value} {S S1 : sS}  (hi : lk code pc = some (.iastore)) (h : stp lay fL cL nL (.iastore) pc lv st S = some (pc1, lv1, st1, S1)) (kk : OkP p l e R s m args below meth c D lay nc ad ca nL cells slots Q pc1 lv1 st1 S1) : OkP p l e R s m args below meth c D lay nc ad ca nL cells slots Q pc lv st S := by
  unfold stp at h
  dsimp only at h
  split at h
  · next v x k r =>
    obtain ⟨hb, h⟩ := bif_s h
    rw [Bool.and_eq_true] at hb
    cases h
    have hl0 := lay_tag hb.1
    have hk := hlay k (by rw [hl0]; simp)
    exact fun ls H locs hl B => r_iast G B hl0 hk (inb_at hb.2) (dOk_n hd hi rfl) (fun H1 locs1 B1 => kk ls H1 locs1 hl B1)
  · cases h
theorem so_lastore (G : CallFix p m c cc nL s args lw_good own) (hd : dOk cc code = true) (hlay : ∀ k, (lay k).1 < 7 → k < nc) (hfL : ∀ ix ci j b, fL ix = some (ci, j, b) → FOk own ix ci j b) (hcL : ∀ ix v, cL ix = some v → COk own ix v) {pc pc1 : Nat} {lv lv1 : List (Nat × Value)} {st st1 : List Value} {S S1 : sS}  (hi : lk code pc = some (.lastore)) (h : stp lay fL cL nL (.lastore) pc lv st S = some (pc1, lv1, st1, S1)) (kk : OkP p l e R s m args below meth c D lay nc ad ca nL cells slots Q pc1 lv1 st1 S1) : OkP p l e R s m args below meth c D lay nc ad ca nL cells slots Q pc lv st S := by
  unfold stp at h
  dsimp only at h
  split at h
  · next v x k r =>
    obtain ⟨hb, h⟩ := bif_s h
    rw [Bool.and_eq_true] at hb
    cases h
    have hl0 := lay_tag hb.1
    have hk := hlay k (by rw [hl0]; simp)
    exact fun ls H locs hl B => r_last G B hl0 hk (inb_at hb.2) (dOk_n hd hi rfl) (fun H1 locs1 B1 => kk ls H1 locs1 hl B1)
  · cases h
theorem so_bastore (G : CallFix p m c cc nL s args lw_good own) (hd : dOk cc code = true) (hlay : ∀ k, (lay k).1 < 7 → k < nc) (hfL : ∀ ix ci j b, fL ix = some (ci, j, b) → FOk own ix ci j b) (hcL : ∀ ix v, cL ix = some v → COk own ix v) {pc pc1 : Nat} {lv lv1 : List (Nat × Value)} {st st1 : List Value} {S S1 : sS}  (hi : lk code pc = some (.bastore)) (h : stp lay fL cL nL (.bastore) pc lv st S = some (pc1, lv1, st1, S1)) (kk : OkP p l e R s m args below meth c D lay nc ad ca nL cells slots Q pc1 lv1 st1 S1) : OkP p l e R s m args below meth c D lay nc ad ca nL cells slots Q pc lv st S := by
  unfold stp at h
  dsimp only at h
  split at h
  · next v x k r =>
    obtain ⟨hb, h⟩ := bif_s h
    cases h3 : Nat.beq (lay k).1 3 with
    | true =>
      rw [h3] at h
      cases h
      have hl0 := lay_tag h3
      have hk := hlay k (by rw [hl0]; simp)
      exact fun ls H locs hl B => r_bast G B hl0 hk (inb_at hb) (dOk_n hd hi rfl) (fun H1 locs1 B1 => kk ls H1 locs1 hl B1)
    | false =>
      rw [h3] at h
      obtain ⟨h4, h⟩ := bif_s (show (bif Nat.beq (lay k).1 4 then _ else none) = some _ from h)
      cases h
      have hl0 := lay_tag h4
      have hk := hlay k (by rw [hl0]; simp)
      exact fun ls H locs hl B => r_zast G B hl0 hk (inb_at hb) (dOk_n hd hi rfl) (fun H1 locs1 B1 => kk ls H1 locs1 hl B1)
  · cases h
theorem so_arraylength (G : CallFix p m c cc nL s args lw_good own) (hd : dOk cc code = true) (hlay : ∀ k, (lay k).1 < 7 → k < nc) (hfL : ∀ ix ci j b, fL ix = some (ci, j, b) → FOk own ix ci j b) (hcL : ∀ ix v, cL ix = some v → COk own ix v) {pc pc1 : Nat} {lv lv1 : List (Nat × Value)} {st st1 : List Value} {S S1 : sS}  (hi : lk code pc = some (.arraylength)) (h : stp lay fL cL nL (.arraylength) pc lv st S = some (pc1, lv1, st1, S1)) (kk : OkP p l e R s m args below meth c D lay nc ad ca nL cells slots Q pc1 lv1 st1 S1) : OkP p l e R s m args below meth c D lay nc ad ca nL cells slots Q pc lv st S := by
  unfold stp at h
  dsimp only at h
  split at h
  · next k r =>
    cases hsv : Nat.ble SV k with
    | true =>
      rw [hsv] at h
      dsimp only [cond_true] at h
      split at h
      · next q hq =>
        cases h
        intro ls H locs hl B
        have hT := (B.2.2.2.2.2.2.2 _ q hq).2.2.2.2
        rw [Nat.add_sub_cancel' (Nat.le_of_ble_eq_true hsv)] at hT
        exact va_tlen G.1 G.2.1 hT B.2.2.2.1 rfl (dOk_n hd hi rfl) (kk ls H locs hl B)
      · cases h
    | false =>
      rw [hsv] at h
      obtain ⟨hb, h⟩ := bif_s (show (bif Nat.ble 1 (lay k).1 && Nat.ble (lay k).1 6 then _ else none) = some _ from h)
      rw [Bool.and_eq_true] at hb
      cases h
      have h1 := Nat.le_of_ble_eq_true hb.1
      have h2 := Nat.le_of_ble_eq_true hb.2
      exact fun ls H locs hl B => r_alen G B h1 h2 (hlay k (by omega)) (dOk_n hd hi rfl) (kk ls H locs hl B)
  · cases h
theorem so_ldc (G : CallFix p m c cc nL s args lw_good own) (hd : dOk cc code = true) (hlay : ∀ k, (lay k).1 < 7 → k < nc) (hfL : ∀ ix ci j b, fL ix = some (ci, j, b) → FOk own ix ci j b) (hcL : ∀ ix v, cL ix = some v → COk own ix v) {pc pc1 : Nat} {lv lv1 : List (Nat × Value)} {st st1 : List Value} {S S1 : sS} {ix : Nat} (hi : lk code pc = some (.ldc ix)) (h : stp lay fL cL nL (.ldc ix) pc lv st S = some (pc1, lv1, st1, S1)) (kk : OkP p l e R s m args below meth c D lay nc ad ca nL cells slots Q pc1 lv1 st1 S1) : OkP p l e R s m args below meth c D lay nc ad ca nL cells slots Q pc lv st S := by
  unfold stp at h
  dsimp only at h
  split at h
  · next v hv =>
    cases h
    exact fun ls H locs hl B => lv_ldc G.1 G.2.1 G.2.2.2.1 (G.2.2.2.2 _ (hcL _ _ hv)) (dOk_n hd hi rfl) (kk ls H locs hl B)
  · next k hv =>
    cases h
    obtain ⟨i, q, hq, hk, h1, h2⟩ := hcL _ _ hv
    subst hk
    intro ls H locs hl B
    have hR := (B.2.2.2.2.2.2.2 i q hq).1
    rw [h1, h2] at hR
    exact va_ldcS G.1 G.2.1 G.2.2.2.1 hR (dOk_n hd hi rfl) (kk ls H locs hl B)
  · cases h
theorem so_ldc_w (G : CallFix p m c cc nL s args lw_good own) (hd : dOk cc code = true) (hlay : ∀ k, (lay k).1 < 7 → k < nc) (hfL : ∀ ix ci j b, fL ix = some (ci, j, b) → FOk own ix ci j b) (hcL : ∀ ix v, cL ix = some v → COk own ix v) {pc pc1 : Nat} {lv lv1 : List (Nat × Value)} {st st1 : List Value} {S S1 : sS} {ix : Nat} (hi : lk code pc = some (.ldc_w ix)) (h : stp lay fL cL nL (.ldc_w ix) pc lv st S = some (pc1, lv1, st1, S1)) (kk : OkP p l e R s m args below meth c D lay nc ad ca nL cells slots Q pc1 lv1 st1 S1) : OkP p l e R s m args below meth c D lay nc ad ca nL cells slots Q pc lv st S := by
  unfold stp at h
  dsimp only at h
  split at h
  · next v hv =>
    cases h
    exact fun ls H locs hl B => lv_ldcw G.1 G.2.1 G.2.2.2.1 (G.2.2.2.2 _ (hcL _ _ hv)) (dOk_n hd hi rfl) (kk ls H locs hl B)
  · next k hv =>
    cases h
    obtain ⟨i, q, hq, hk, h1, h2⟩ := hcL _ _ hv
    subst hk
    intro ls H locs hl B
    have hR := (B.2.2.2.2.2.2.2 i q hq).1
    rw [h1, h2] at hR
    exact lv_ldcwS G.1 G.2.1 G.2.2.2.1 hR (dOk_n hd hi rfl) (kk ls H locs hl B)
  · cases h
theorem so_ldc2_w (G : CallFix p m c cc nL s args lw_good own) (hd : dOk cc code = true) (hlay : ∀ k, (lay k).1 < 7 → k < nc) (hfL : ∀ ix ci j b, fL ix = some (ci, j, b) → FOk own ix ci j b) (hcL : ∀ ix v, cL ix = some v → COk own ix v) {pc pc1 : Nat} {lv lv1 : List (Nat × Value)} {st st1 : List Value} {S S1 : sS} {ix : Nat} (hi : lk code pc = some (.ldc2_w ix)) (h : stp lay fL cL nL (.ldc2_w ix) pc lv st S = some (pc1, lv1, st1, S1)) (kk : OkP p l e R s m args below meth c D lay nc ad ca nL cells slots Q pc1 lv1 st1 S1) : OkP p l e R s m args below meth c D lay nc ad ca nL cells slots Q pc lv st S := by
  unfold stp at h
  dsimp only at h
  split at h
  · next v hv =>
    cases h
    exact fun ls H locs hl B => lv_ldc2 G.1 G.2.1 G.2.2.2.1 (G.2.2.2.2 _ (hcL _ _ hv)) (dOk_n hd hi rfl) (kk ls H locs hl B)
  · cases h
theorem stp_ok (G : CallFix p m c cc nL s args lw_good own) (hd : dOk cc code = true) (hlay : ∀ k, (lay k).1 < 7 → k < nc) (hfL : ∀ ix ci j b, fL ix = some (ci, j, b) → FOk own ix ci j b) (hcL : ∀ ix v, cL ix = some v → COk own ix v) {pc pc1 : Nat} {lv lv1 : List (Nat × Value)} {st st1 : List Value} {S S1 : sS} {i : Instr} (hi : lk code pc = some i) (h : stp lay fL cL nL i pc lv st S = some (pc1, lv1, st1, S1)) (kk : OkP p l e R s m args below meth c D lay nc ad ca nL cells slots Q pc1 lv1 st1 S1) : OkP p l e R s m args below meth c D lay nc ad ca nL cells slots Q pc lv st S := by
  cases i with
  | iconst a0 => exact so_iconst G hd hlay hfL hcL hi h kk
  | bipush a0 => exact so_bipush G hd hlay hfL hcL hi h kk
  | sipush a0 => exact so_sipush G hd hlay hfL hcL hi h kk
  | lconst a0 => exact so_lconst G hd hlay hfL hcL hi h kk
  | iload_n a0 => exact so_iload_n G hd hlay hfL hcL hi h kk
  | iload a0 => exact so_iload G hd hlay hfL hcL hi h kk
  | istore_n a0 => exact so_istore_n G hd hlay hfL hcL hi h kk
  | istore a0 => exact so_istore G hd hlay hfL hcL hi h kk
  | lload_n a0 => exact so_lload_n G hd hlay hfL hcL hi h kk
  | lload a0 => exact so_lload G hd hlay hfL hcL hi h kk
  | lstore_n a0 => exact so_lstore_n G hd hlay hfL hcL hi h kk
  | lstore a0 => exact so_lstore G hd hlay hfL hcL hi h kk
  | aload_n a0 => exact so_aload_n G hd hlay hfL hcL hi h kk
  | aload a0 => exact so_aload G hd hlay hfL hcL hi h kk
  | astore_n a0 => exact so_astore_n G hd hlay hfL hcL hi h kk
  | astore a0 => exact so_astore G hd hlay hfL hcL hi h kk
  | iinc a0 a1 => exact so_iinc G hd hlay hfL hcL hi h kk
  | iadd => exact so_iadd G hd hlay hfL hcL hi h kk
  | isub => exact so_isub G hd hlay hfL hcL hi h kk
  | imul => exact so_imul G hd hlay hfL hcL hi h kk
  | iand => exact so_iand G hd hlay hfL hcL hi h kk
  | ior => exact so_ior G hd hlay hfL hcL hi h kk
  | ixor => exact so_ixor G hd hlay hfL hcL hi h kk
  | ishl => exact so_ishl G hd hlay hfL hcL hi h kk
  | ishr => exact so_ishr G hd hlay hfL hcL hi h kk
  | ineg => exact so_ineg G hd hlay hfL hcL hi h kk
  | ladd => exact so_ladd G hd hlay hfL hcL hi h kk
  | lsub => exact so_lsub G hd hlay hfL hcL hi h kk
  | lmul => exact so_lmul G hd hlay hfL hcL hi h kk
  | land => exact so_land G hd hlay hfL hcL hi h kk
  | lor => exact so_lor G hd hlay hfL hcL hi h kk
  | idiv => exact so_idiv G hd hlay hfL hcL hi h kk
  | irem => exact so_irem G hd hlay hfL hcL hi h kk
  | ldiv => exact so_ldiv G hd hlay hfL hcL hi h kk
  | lrem => exact so_lrem G hd hlay hfL hcL hi h kk
  | lushr => exact so_lushr G hd hlay hfL hcL hi h kk
  | lshl => exact so_lshl G hd hlay hfL hcL hi h kk
  | lshr => exact so_lshr G hd hlay hfL hcL hi h kk
  | i2l => exact so_i2l G hd hlay hfL hcL hi h kk
  | l2i => exact so_l2i G hd hlay hfL hcL hi h kk
  | i2b => exact so_i2b G hd hlay hfL hcL hi h kk
  | i2c => exact so_i2c G hd hlay hfL hcL hi h kk
  | iushr => exact so_iushr G hd hlay hfL hcL hi h kk
  | lcmp => exact so_lcmp G hd hlay hfL hcL hi h kk
  | dup => exact so_dup G hd hlay hfL hcL hi h kk
  | pop => exact so_pop G hd hlay hfL hcL hi h kk
  | dup2 => exact so_dup2 G hd hlay hfL hcL hi h kk
  | ifCond a0 a1 => exact so_ifCond G hd hlay hfL hcL hi h kk
  | if_icmp a0 a1 => exact so_if_icmp G hd hlay hfL hcL hi h kk
  | goto a0 => exact so_goto G hd hlay hfL hcL hi h kk
  | tableswitch a0 a1 a2 a3 => exact so_tableswitch G hd hlay hfL hcL hi h kk
  | lookupswitch a0 a1 => exact so_lookupswitch G hd hlay hfL hcL hi h kk
  | getfield a0 => exact so_getfield G hd hlay hfL hcL hi h kk
  | getstatic a0 => exact so_getstatic G hd hlay hfL hcL hi h kk
  | putfield a0 => exact so_putfield G hd hlay hfL hcL hi h kk
  | iaload => exact so_iaload G hd hlay hfL hcL hi h kk
  | laload => exact so_laload G hd hlay hfL hcL hi h kk
  | baload => exact so_baload G hd hlay hfL hcL hi h kk
  | aaload => exact so_aaload G hd hlay hfL hcL hi h kk
  | iastore => exact so_iastore G hd hlay hfL hcL hi h kk
  | lastore => exact so_lastore G hd hlay hfL hcL hi h kk
  | bastore => exact so_bastore G hd hlay hfL hcL hi h kk
  | arraylength => exact so_arraylength G hd hlay hfL hcL hi h kk
  | ldc a0 => exact so_ldc G hd hlay hfL hcL hi h kk
  | ldc_w a0 => exact so_ldc_w G hd hlay hfL hcL hi h kk
  | ldc2_w a0 => exact so_ldc2_w G hd hlay hfL hcL hi h kk
  | _ => exact nomatch (show (none : Option cfg) = some _ from h)
end SP


