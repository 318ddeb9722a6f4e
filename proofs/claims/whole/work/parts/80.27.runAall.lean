/-! what the machine that makes cells answers, the JVM answers -/
section RB
variable {p : Program} {l : Launch} {e : Env} {R : Room} {s : State} {m : MethodId} {args : Array Value} {below : List Frame} {meth : Method} {c : Code} {Q : State → Prop}
variable {cc : ByteArray} {nL h0 : Nat} {D : va_G} {lay : Nat → Nat × Nat} {ad ca : Nat → Nat} {own : String}
variable {n0 ss0 ow d : Nat} {code : List (Nat × Instr)} {fL : Nat → Option (Nat × Nat × Bool)} {cL : Nat → Option Value} {kL : Nat → Option (Nat × mT × Nat)} {cC : Nat → Option Nat} {kI : Nat → Option (Nat × mT × Nat)} {ret : Option FieldType} {sc : Bool} {L : Nat} {xs : Nat → Int32} {callN : Nat → cal} {callA : calA} {r0 : Option Value} {S0 : sS} {n1 ss1 : Nat}
theorem stp_new {lay : Nat → Nat × Nat} {nL pc : Nat} {i : Instr} {lv : List (Nat × Value)} {st : List Value} {S : sS} {x : cfg} (h : stp lay fL cL nL i pc lv st S = some x) : isNew i = false := by
  cases i <;> first | rfl | exact nomatch (show (none : Option cfg) = some _ from h)
theorem runA_ok (G : CallFix p m c cc nL s args lw_good own) (hd : dOkA cc code = true) (hOv : sOv s) (hA : AOk) (hfL : ∀ ix ci j b, fL ix = some (ci, j, b) → FOk own ix ci j b) (hcL : ∀ ix v, cL ix = some v → COk own ix v) (hkL : ∀ ix kd md na, kL ix = some (kd, md, na) → KOk own ix kd na md) (hcC : ∀ ix ci, cC ix = some ci → LOk own ix ci) (hkI : ∀ ix kd md na, kI ix = some (kd, md, na) → IOk own ix kd na md)
    (hin : meth.name = "<init>" ∧ ownS ow = own ∨ ow = 99) (hX : sc = true → va_X (ad SCR) L xs s s.heap ∧ ad SCR < s.heap.size ∧ ∀ n, n ≤ 1900 → ¬ sA n ad s.heap.size (ad SCR)) {nb : Nat} (had : nb < n1 → ∀ k, k < 1900 → ad k = h0 + k) (hadI : ∀ md av S n ss x, callA md av S n ss = some x → ∀ k, k < 1900 → ad k = h0 + k) (hs : s.heap.size = h0 + n0)
    (hcallN : ∀ n, n ≤ 1900 → ∀ md, MOk md → ∀ av S r S1, callN n md av S = some (r, S1) → sM l D (layN lay n) n ad ca md.1 md.2.1 md.2.2.1 md.2.2.2.1 d av S r S1)
    (hcallA : ∀ md, MOkA md → ∀ av S n ss r S1 n1 ss1, n ≤ 1900 → callA md av S n ss = some (r, S1, n1, ss1) → sMA l D lay h0 ad ca md d av S n ss r S1 n1 ss1)
    (hR : d + 1 ≤ R.frames ∧ 40 * (d + 1) ≤ R.locals) (hRc : n1 - n0 ≤ R.cells) (hRs : ss1 - ss0 ≤ R.slots)
    (hend : ∀ (pc : Nat) (ls : Array Slot) (H : Heap) (locs : List Loc), sB D lay n1 ad ca S0 s H locs → (lk code pc = some .ireturn ∧ sc = true ∧ (∃ v : Int32, r0 = some (.int v))) ∨ (lk code pc = some .return_ ∧ ret = none ∧ r0 = none) → W p l e R s m args below meth c H locs (n1 - n0) (ss1 - ss0) Q (F0 m pc ls (r0.map (trV ad)).toList)) :
    ∀ (F n ss pc : Nat) (lv : List (Nat × Value)) (st : List Value) (S : sS), n0 ≤ n → nb ≤ n → ss0 ≤ ss → n ≤ 1900 → runA lay fL cL kL cC kI ow nL ret sc L xs callN callA code F n ss pc lv st S = some (r0, S0, n1, ss1) → n ≤ n1 ∧ ss ≤ ss1 ∧ OkP p l e R s m args below meth c D lay n ad ca nL (n - n0) (ss - ss0) Q pc lv st S := by
  intro F
  induction F with
  | zero => intro n ss pc lv st S _ _ _ _ h; exact nomatch (show (none : Option (Option Value × sS × Nat × Nat)) = some _ from h)
  | succ F ih =>
    intro n ss pc lv st S hn hnb hss h19 h
    unfold runA at h
    cases hi : lk code pc with
    | none => rw [hi] at h; exact nomatch (show (none : Option (Option Value × sS × Nat × Nat)) = some _ from h)
    | some i =>
      rw [hi] at h
      dsimp only at h
      have hsz : ∀ {H : Heap} {locs : List Loc}, (∀ k, k < 1900 → ad k = h0 + k) → sB D lay n ad ca S s H locs → H.size ≤ s.heap.size + (n - n0) → H.size = h0 + n := fun had B hz => sB_size B (fun k hk => had k (by omega)) hs (by omega) hz
      have init : ∀ {ix kd na : Nat} {md : mT} {S1 : sS} {n2 ss2 : Nat}, i = .invokespecial ix → kI ix = some (kd, md, na) → (kd = 5 ∨ kd = 6) → cOk (layN lay n) md.2.2.2.2.1 na st = true → callA md (st.take (na + 1)).reverse S n ss = some (none, S1, n2, ss2) → runA lay fL cL kL cC kI ow nL ret sc L xs callN callA code F n2 ss2 (pc + 3) lv (st.drop (na + 1)) S1 = some (r0, S0, n1, ss1) → n ≤ n1 ∧ ss ≤ ss1 ∧ OkP p l e R s m args below meth c D lay n ad ca nL (n - n0) (ss - ss0) Q pc lv st S := by
        clear h
        intro ix kd na md S1 n2 ss2 hie hk hkd hc hca h
        subst hie
        have hI := hkI _ _ _ _ hk
        have hMO : MOkA md := by
          rcases hI with ⟨h7, -⟩ | ⟨-, hM, -⟩
          · omega
          · exact hM
        have hM := hcallA md hMO _ _ _ _ _ _ _ _ h19 hca
        have had := hadI _ _ _ _ _ _ hca
        have hm1 := hM.1
        have hm2 := hM.2.1
        have hm3 := hM.2.2.1
        obtain ⟨g1, g2, g3⟩ := ih n2 ss2 (pc + 3) lv (st.drop (na + 1)) S1 (by omega) (by omega) (by omega) hm3 h
        refine ⟨by omega, by omega, fun ls H locs hl B => ?_⟩
        refine w_size (fun hz => ?_)
        obtain ⟨a, hrun⟩ := r_runI (e := e) (below := below) (meth := meth) (locs := locs) (cells := n - n0) (slots := ss - ss0) G B hOv (hsz had B hz) hI hkd hc hM hl.1 hR ⟨by omega, by omega⟩ (dOkA_n hd hi rfl)
        refine r_backA B hm1 (fun k h1 h2 => by rw [had k (by omega), hs]; omega) hrun (fun H1 locs1 B1 => ?_)
        rw [show n - n0 + (n2 - n) = n2 - n0 by omega, show ss - ss0 + (ss2 - ss) = ss2 - ss0 by omega]
        exact g3 ls H1 locs1 hl B1
      have other : (match stA lay fL cC ow sc L xs i n ss pc st S with
        | some (n1, ss1, pc1, st1, S1) => runA lay fL cL kL cC kI ow nL ret sc L xs callN callA code F n1 ss1 pc1 lv st1 S1
        | none => (match stp (layN lay n) fL cL nL i pc lv st S with
          | some (pc1, lv1, st1, S1) => runA lay fL cL kL cC kI ow nL ret sc L xs callN callA code F n ss pc1 lv1 st1 S1
          | none => none)) = some (r0, S0, n1, ss1) → n ≤ n1 ∧ ss ≤ ss1 ∧ OkP p l e R s m args below meth c D lay n ad ca nL (n - n0) (ss - ss0) Q pc lv st S := by
        clear h
        intro h
        split at h
        · next n2 ss2 pc1 st1 S1 hst =>
          obtain ⟨m1, m2, m3⟩ := stA_mono hst h19
          obtain ⟨g1, g2, g3⟩ := ih n2 ss2 pc1 lv st1 S1 (by omega) (by omega) (by omega) m3 h
          refine ⟨by omega, by omega, ?_⟩
          have e1 : n2 - n0 = n - n0 + (n2 - n) := by omega
          have e2 : ss2 - ss0 = ss - ss0 + (ss2 - ss) := by omega
          rw [e1, e2] at g3
          exact stA_ok G hd hOv hA hfL hcC hin hX hs hi hst (fun z => had (by omega)) h19 (by omega) (by omega) (by omega) g3
        · split at h
          · next pc1 lv1 st1 S1 hst =>
            obtain ⟨g1, g2, g3⟩ := ih n ss pc1 lv1 st1 S1 hn hnb hss h19 h
            exact ⟨g1, g2, OkP_unN (stp_ok G (dOkA_N hd) layN_in hfL hcL (lk_codeN hi (stp_new hst)) hst (OkP_layN g3))⟩
          · cases h
      have virt : ∀ {kd na : Nat} {md : mT} {o : Option Value} {S1 : sS} {rest : List Value}, (∀ (ls : Array Slot) (H : Heap) (locs : List Loc), ls.size = nL → sB D (layN lay n) n ad ca S s H locs → n - n0 ≤ R.cells ∧ ss - ss0 ≤ R.slots → ∃ a, va_Run p l e R s m args below meth c H locs (n - n0) (ss - ss0) 0 0 (F0 m pc ls (st.map (trV ad))) (rest.map (trV ad)) (sQ D (layN lay n) n ad ca H.size o S1 a) (sA n ad H.size)) → runA lay fL cL kL cC kI ow nL ret sc L xs callN callA code F n ss (pc + 3) lv (o.toList ++ rest) S1 = some (r0, S0, n1, ss1) → n ≤ n1 ∧ ss ≤ ss1 ∧ OkP p l e R s m args below meth c D lay n ad ca nL (n - n0) (ss - ss0) Q pc lv st S := by
        clear h
        intro kd na md o S1 rest hrun h
        obtain ⟨g1, g2, g3⟩ := ih n ss (pc + 3) lv (o.toList ++ rest) S1 hn hnb hss h19 h
        refine ⟨g1, g2, OkP_unN (fun ls H locs hl B => ?_)⟩
        obtain ⟨a, hr⟩ := hrun ls H locs hl.1 B ⟨by omega, by omega⟩
        refine r_back B hr (fun H1 locs1 B1 => ?_)
        have g := g3 ls H1 locs1 hl (sB_unN B1)
        cases o with
        | none => exact g
        | some v => exact g
      split at h
      · next ix =>
        split at h
        · next hk =>
          split at h
          · next k r =>
            obtain ⟨hb, h⟩ := bif_s h
            obtain ⟨g1, g2, g3⟩ := ih n ss (pc + 3) lv r S hn hnb hss h19 h
            refine ⟨g1, g2, fun ls H locs hl B => ?_⟩
            rcases hkI _ _ _ _ hk with ⟨-, k1, k2, k3⟩ | ⟨h7, -⟩
            · refine W.objInit G.1 G.2.1 G.2.2.2.1 (G.2.2.2.2 _ k1) (G.2.2.2.2 _ k2) (G.2.2.2.2 _ k3) rfl (hl.1.trans G.2.2.1.symm) rfl (dOkA_n hd hi rfl) (Nat.le_trans (Nat.succ_le_succ (Nat.zero_le _)) hR.1) ?_ (g3 ls H locs hl B)
              have q := lv_room (m := m) (pc := pc) (ls := ls) (rest := (Value.ref k :: r).map (trV ad)) (r_stS (ad := ad) hb)
              have q2 := hR.2
              omega
            · omega
          · cases h
        · next md na hk =>
          obtain ⟨hb, h⟩ := bif_s h
          split at h
          · next S1 n2 ss2 hca => exact init rfl hk (Or.inl rfl) hb hca h
          · cases h
        · next md na hk =>
          obtain ⟨hb, h⟩ := bif_s h
          split at h
          · next S1 n2 ss2 hca => exact init rfl hk (Or.inr rfl) hb hca h
          · cases h
        · cases h
      · next ix =>
        split at h
        · next md na hk =>
          obtain ⟨hc, h⟩ := bif_s h
          have hK := (hkL _ _ _ _ hk).of (by decide)
          split at h
          · next v S1 he => exact virt (kd := 0) (na := na) (md := md) (o := some v) (rest := st.drop (na + 1)) (fun ls H locs hz B hcs => r_runV G B layN_in hK hc (hcallN n h19 _ hK.1 _ _ _ _ he) hz hR hcs (dOkA_n hd hi rfl)) h
          · next S1 he => exact virt (kd := 0) (na := na) (md := md) (o := none) (rest := st.drop (na + 1)) (fun ls H locs hz B hcs => r_runV G B layN_in hK hc (hcallN n h19 _ hK.1 _ _ _ _ he) hz hR hcs (dOkA_n hd hi rfl)) h
          · cases h
        · next md na hk =>
          obtain ⟨hc, h⟩ := bif_s h
          have hK := (hkL _ _ _ _ hk).of (by decide)
          split at h
          · next v S1 he => exact virt (kd := 0) (na := na) (md := md) (o := some v) (rest := st.drop (na + 1)) (fun ls H locs hz B hcs => r_runT G B hK hc (hcallN n h19 _ hK.1 _ _ _ _ he) hz hR hcs (dOkA_n hd hi rfl)) h
          · next S1 he => exact virt (kd := 0) (na := na) (md := md) (o := none) (rest := st.drop (na + 1)) (fun ls H locs hz B hcs => r_runT G B hK hc (hcallN n h19 _ hK.1 _ _ _ _ he) hz hR hcs (dOkA_n hd hi rfl)) h
          · cases h
        · cases h
      · next ix =>
        split at h
        · next md na hk =>
          obtain ⟨hc, h⟩ := bif_s h
          have hK := (hkL _ _ _ _ hk).of (by decide)
          split at h
          · next v S1 he => exact virt (kd := 0) (na := na) (md := md) (o := some v) (rest := st.drop na) (fun ls H locs hz B hcs => r_runS G B hK hc (hcallN n h19 _ hK.1 _ _ _ _ he) hz hR hcs (dOkA_n hd hi rfl)) h
          · next S1 he => exact virt (kd := 0) (na := na) (md := md) (o := none) (rest := st.drop na) (fun ls H locs hz B hcs => r_runS G B hK hc (hcallN n h19 _ hK.1 _ _ _ _ he) hz hR hcs (dOkA_n hd hi rfl)) h
          · cases h
        · next md na hk =>
          obtain ⟨hc, h⟩ := bif_s h
          have hK := (hkL _ _ _ _ hk).of (by decide)
          split at h
          · next v S1 he => exact virt (kd := 0) (na := na) (md := md) (o := some v) (rest := st.drop na) (fun ls H locs hz B hcs => r_runN G B hK hc (hcallN n h19 _ hK.1 _ _ _ _ he) hz hR hcs (dOkA_n hd hi rfl)) h
          · next S1 he => exact virt (kd := 0) (na := na) (md := md) (o := none) (rest := st.drop na) (fun ls H locs hz B hcs => r_runN G B hK hc (hcallN n h19 _ hK.1 _ _ _ _ he) hz hR hcs (dOkA_n hd hi rfl)) h
          · cases h
        · cases h
      · split at h
        · next v =>
          obtain ⟨hv, h⟩ := bif_s h
          cases h
          exact ⟨Nat.le_refl _, Nat.le_refl _, fun ls H locs hl B => hend pc ls H locs B (Or.inl ⟨hi, hv, v, rfl⟩)⟩
        · cases h
      · split at h
        · split at h
          · cases h
            exact ⟨Nat.le_refl _, Nat.le_refl _, fun ls H locs hl B => hend pc ls H locs B (Or.inr ⟨hi, rfl, rfl⟩)⟩
          · cases h
        · cases h
      · exact other h
end RB


