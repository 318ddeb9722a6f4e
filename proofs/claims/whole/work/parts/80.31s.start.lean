/-- what the small machine answers behind the two constructors, by the other numbers, the law answers -/
theorem law_start {p : Program} {e : Env} {s : State} {m : MethodId} {below : List Frame} {meth : Method} {c : Code} (l : Launch) {b L : Nat} {xs : Nat → Int32} (C0 : lw_At p s m meth c b L xs) {F G1 d : Nat} {S S1 S2 S3 : sS} (hd : d + 1 ≤ 2048)
    (e1 : evA layR G1 d m_rs_init [.ref 0] (zC S 0) 1 (0 + nT 0) = some (none, S1, 922, 41082)) (e2 : evA layR G1 d m_mo_init [.ref 922] (zC S1 922) 923 (41082 + nT 12) = some (none, S2, 1014, 143280))
    (hrun : runA layF (fun _ => none) (lkp cT_la) (lkp kT_la) (lkp cC_la) (lkp kI_la) 99 4 none true L xs (fun n => evd (layN layF n) F d) (fun _ _ _ _ _ => none) p_law F 1014 143280 18 lvC [] (pS S2) = some (some (.int 1), S3, 1014, 143280)) : W p l e room_1 s m #[Value.ref b] below meth c s.heap [] 0 0 (lw_Z below #[Value.ref b] s) (entryFrame m ([Value.ref b] : List Value).toArray 4) := by
  obtain ⟨hx, hb, hr, hml, hown, hts, hX, hbl, hlocks, hgv⟩ := C0
  have htg : ∀ w ∈ lw_good, w.before #[Value.ref b] s = true := fun w hw => hts w (List.mem_filter.mp hw).1
  have hA0 : ∀ a : Nat, a < s.heap.size → ¬ s.heap.size ≤ a := fun a h1 h2 => absurd h1 (Nat.not_lt.mpr h2)
  obtain ⟨f, hf⟩ := str_all (A := fun q => s.heap.size ≤ q) hts hgv hA0
  obtain ⟨D, hD⟩ := cls_all htg
  have hO := ov_all hts
  obtain ⟨ca, hca⟩ := arr_all htg hO
  have hZ := stat_all (A := fun q => s.heap.size ≤ q) hts hgv hA0
  have had : ∀ k, k < 1900 → adA s.heap.size b f k = s.heap.size + k := fun k hk => if_pos hk
  have hK : va_K D classes (sT ca) s := ⟨hD, hca⟩
  have hscr : adA s.heap.size b f SCR = b := rfl
  have eA : sA 0 (adA s.heap.size b f) s.heap.size = fun q => s.heap.size ≤ q := by
    funext q
    refine propext ⟨fun z => z.elim (fun ⟨k, hk, _⟩ => absurd hk (Nat.not_lt_zero _)) id, Or.inr⟩
  have G : CallFix p m c code 4 s #[Value.ref b] lw_good "RuleSentencesLaw" := ⟨hx, hb, hml, hown, htg⟩
  have hN : sX 0 (adA s.heap.size b f) s := by
    refine ⟨nest_all hts, ?_⟩
    rw [eA]
    refine ⟨hZ.1, hZ.2, fun i q hi => ?_⟩
    have hn := str_n hi
    have e1 : adA s.heap.size b f (SB + i) = (f i).1 := by
      have h1 : ¬ SB + i < 1900 := by unfold SB; omega
      have h2 : ¬ SB + i = 2300 := by unfold SB; omega
      have h3 : SB + i < 2100 := by unfold SB; omega
      have h4 : SB + i - 2000 = i := by unfold SB; omega
      unfold adA
      rw [if_neg h1, if_neg h2, if_pos h3, h4]
    have e2 : adA s.heap.size b f (SV + i) = (f i).2 := by
      have h1 : ¬ SV + i < 1900 := by unfold SV; omega
      have h2 : ¬ SV + i = 2300 := by unfold SV; omega
      have h3 : ¬ SV + i < 2100 := by unfold SV; omega
      have h4 : SV + i - 2100 = i := by unfold SV; omega
      unfold adA
      rw [if_neg h1, if_neg h2, if_neg h3, h4]
    rw [e1, e2]
    exact hf i q hi
  have hl := lv_entry [Value.ref b] (n := 4) (show 1 ≤ 4 by decide)
  rw [lg_entry_eq]
  have hge : ∀ n, n ≤ 1900 → ∀ q, sA n (adA s.heap.size b f) s.heap.size q → s.heap.size ≤ q := fun n h19 q z => z.elim (fun ⟨k, hk, hq⟩ => by rw [hq, had k (by omega)]; omega) id
  have hfL : ∀ ix ci j b, (fun _ : Nat => (none : Option (Nat × Nat × Bool))) ix = some (ci, j, b) → FOk "RuleSentencesLaw" ix ci j b := fun ix ci j b z => nomatch z
  have hcL : ∀ ix v, lkp cT_la ix = some v → COk "RuleSentencesLaw" ix v := fun ix v z => cT_la_ok _ (lkp_mem z)
  have hR : d + 1 ≤ room_1.frames ∧ 40 * (d + 1) ≤ room_1.locals := ⟨hd, show 40 * (d + 1) ≤ 84000 by omega⟩
  have hXr : true = true → va_X (adA s.heap.size b f SCR) L xs s s.heap ∧ adA s.heap.size b f SCR < s.heap.size ∧ ∀ n, n ≤ 1900 → ¬ sA n (adA s.heap.size b f) s.heap.size (adA s.heap.size b f SCR) := fun _ => ⟨by rw [hscr]; exact hX, by rw [hscr]; exact hbl, fun n h19 z => absurd (hge n h19 _ z) (by rw [hscr]; omega)⟩
  have stepS : ∀ {n cells slots pc pc1 : Nat} {lv lv1 : List (Nat × Value)} {st st1 : List Value} {S S1 : sS} {i : Instr}, lk p_law pc = some i → stp (layN layR n) (fun _ => none) (lkp cT_la) 4 i pc lv st S = some (pc1, lv1, st1, S1) → OkP p l e room_1 s m #[Value.ref b] below meth c D layR n (adA s.heap.size b f) ca 4 cells slots (lw_Z below #[Value.ref b] s) pc1 lv1 st1 S1 → OkP p l e room_1 s m #[Value.ref b] below meth c D layR n (adA s.heap.size b f) ca 4 cells slots (lw_Z below #[Value.ref b] s) pc lv st S := fun hi hst g => OkP_unN (stp_ok G (dOkA_N q_law) layN_in hfL hcL (lk_codeN hi (stp_new hst)) hst (OkP_layN g))
  have newS : ∀ {n n1 ss ss1 pc pc1 : Nat} {lv : List (Nat × Value)} {st st1 : List Value} {S S1 : sS} {i : Instr}, lk p_law pc = some i → stA layR (fun _ => none) (lkp cC_la) 99 true L xs i n ss pc st S = some (n1, ss1, pc1, st1, S1) → n ≤ n1 → ss ≤ ss1 → n1 ≤ 1900 → ss1 ≤ 7302250 → OkP p l e room_1 s m #[Value.ref b] below meth c D layR n1 (adA s.heap.size b f) ca 4 n1 ss1 (lw_Z below #[Value.ref b] s) pc1 lv st1 S1 → OkP p l e room_1 s m #[Value.ref b] below meth c D layR n (adA s.heap.size b f) ca 4 n ss (lw_Z below #[Value.ref b] s) pc lv st S := fun {n n1 ss ss1} {_ _} {_} {_ _} {_ _} {_} hi hst h1 h2 h19 hs9 g => stA_ok (h0 := s.heap.size) (n0 := 0) G q_law hO aOk hfL (fun ix ci z => cC_la_ok _ (lkp_mem z)) (Or.inr rfl) hXr rfl hi hst (fun _ => had) (by omega) (by omega) (show n + (n1 - n) ≤ 600000 by omega) (show ss + (ss1 - ss) ≤ 7302250 by omega) (by
    rw [show n + (n1 - n) = n1 by omega, show ss + (ss1 - ss) = ss1 by omega]
    exact g)
  have iniS : ∀ {n n1 ss ss1 pc ix na F1 : Nat} {md : mT} {lv : List (Nat × Value)} {st : List Value} {S S1 : sS}, lk p_law pc = some (.invokespecial ix) → lkp kI_la ix = some (5, md, na) → cOk (layN layR n) md.2.2.2.2.1 na st = true → evA layR F1 d md (st.take (na + 1)).reverse S n ss = some (none, S1, n1, ss1) → n ≤ 1900 → ss1 ≤ 7302250 → OkP p l e room_1 s m #[Value.ref b] below meth c D layR n1 (adA s.heap.size b f) ca 4 n1 ss1 (lw_Z below #[Value.ref b] s) (pc + 3) lv (st.drop (na + 1)) S1 → OkP p l e room_1 s m #[Value.ref b] below meth c D layR n (adA s.heap.size b f) ca 4 n ss (lw_Z below #[Value.ref b] s) pc lv st S := by
    intro n n1 ss ss1 pc ix na F1 md lv st S S1 hi hk hc hca h19 hs9 g
    have hI : IOk "RuleSentencesLaw" ix 5 na md := kI_la_ok _ (lkp_mem hk)
    have hMO : MOkA md := by
      rcases hI with ⟨h7, -⟩ | ⟨-, hM, -⟩
      · exact absurd h7 (by decide)
      · exact hM
    have hM := evA_ok (l := l) (D := D) (ca := ca) had d md hMO _ _ _ _ _ _ _ _ h19 hca
    have hm1 := hM.1
    have hm2 := hM.2.1
    have hm3 := hM.2.2.1
    intro ls H locs hl2 B
    refine w_size (fun hz => ?_)
    obtain ⟨a, hrun2⟩ := r_runI (e := e) (below := below) (meth := meth) (locs := locs) (R := room_1) (cells := n) (slots := ss) G B hO (sB_size B (fun k hk => had k (by omega)) (h0 := s.heap.size) (n0 := 0) rfl (by omega) hz) hI (Or.inl rfl) hc hM hl2.1 hR ⟨show n + (n1 - n) ≤ 600000 by omega, show ss + (ss1 - ss) ≤ 7302250 by omega⟩ (dOkA_n q_law hi rfl)
    refine r_backA B hm1 (fun k h1 h2 => by rw [had k (by omega)]; omega) hrun2 (fun H1 locs1 B1 => ?_)
    rw [show n + (n1 - n) = n1 by omega, show ss + (ss1 - ss) = ss1 by omega]
    exact g ls H1 locs1 hl2 B1
  have hge2 : ∀ n, n ≤ 1900 → ∀ q, sA n (fun k => adA s.heap.size b f (piC k)) s.heap.size q → s.heap.size ≤ q := fun n h19 q z => z.elim (fun ⟨k, hk, hq⟩ => by rw [hq]; dsimp only; rw [had (piC k) (by have t := piC_c k; omega)]; omega) id
  have hscr2 : adA s.heap.size b f (piC SCR) = b := by rw [pi_out (k := SCR) (by unfold SCR; omega)]; exact hscr
  have main := runA_ok (l := l) (e := e) (below := below) (meth := meth) (D := D) (ca := ca) (ad := fun k => adA s.heap.size b f (piC k)) (h0 := s.heap.size) (n0 := 0) (ss0 := 0) (nb := 1014) (d := d) (ow := 99) (sc := true) (L := L) (xs := xs) (ret := none) (r0 := some (.int 1)) (S0 := S3) (n1 := 1014) (ss1 := 143280) (lay := layF) (R := room_1) (Q := lw_Z below #[Value.ref b] s) G q_law hO aOk (fL := fun _ => none) (cL := lkp cT_la) (kL := lkp kT_la) (cC := lkp cC_la) (kI := lkp kI_la) hfL hcL (fun ix kd md na z => kT_la_ok _ (lkp_mem z)) (fun ix ci z => cC_la_ok _ (lkp_mem z)) (fun ix kd md na z => kI_la_ok _ (lkp_mem z)) (Or.inr rfl)
    (fun _ => ⟨by rw [hscr2]; exact hX, by rw [hscr2]; exact hbl, fun n h19 z => absurd (hge2 n h19 _ z) (by rw [hscr2]; omega)⟩) (fun z => absurd z (Nat.lt_irrefl _)) (fun _ _ _ _ _ _ z => nomatch z) rfl
    (callN := fun n => evd (layN layF n) F d) (callA := fun _ _ _ _ _ => none) (fun n _ md hmd av S r S1 hz => evd_ok layN_in d md hmd av S r S1 hz) (fun md hmd av S n ss r S1 n1 ss1 hn hz => nomatch hz) hR (show 1014 - 0 ≤ 600000 by omega) (show 143280 - 0 ≤ 7302250 by omega)
    (fun pc ls H locs B1 he => by
      rcases he with ⟨hpc, -, -⟩ | ⟨-, -, z⟩
      · refine W.widen (k := 600000) (n := 7302250) (by omega) (by omega) (va_forget (fun q hq => ?_) (lw_ret hx hb hr hlocks (dOkA_n q_law hpc rfl)))
        have h3 := B1.2.2.2.1.2.2 q hq
        exact hge2 1014 (by omega) _ h3
      · cases z) F 1014 143280 18 lvC [] (pS S2) (Nat.zero_le _) (Nat.le_refl _) (Nat.zero_le _) (by decide) hrun
  have g18 : OkP p l e room_1 s m #[Value.ref b] below meth c D layR 1014 (adA s.heap.size b f) ca 4 1014 143280 (lw_Z below #[Value.ref b] s) 18 [(3, .int 0), (2, .ref 922), (1, .ref 0), (0, .ref SCR)] [] S2 := OkP_pi (ad := adA s.heap.size b f) (lay1 := layF) (lv1 := lvC) (st1 := []) lay_pi (lv_pi (ad := adA s.heap.size b f)) (st_pi (ad := adA s.heap.size b f)) main.2.2
  have g17 := stepS (pc := 17) (lv := [(2, .ref 922), (1, .ref 0), (0, .ref SCR)]) (st := [.int 0]) (S := S2) rfl rfl g18
  have g16 := stepS (pc := 16) (lv := [(2, .ref 922), (1, .ref 0), (0, .ref SCR)]) (st := []) (S := S2) rfl rfl g17
  have g15 := stepS (pc := 15) (lv := [(1, .ref 0), (0, .ref SCR)]) (st := [.ref 922]) (S := S2) rfl rfl g16
  have g12 := iniS (pc := 12) (n := 923) (ss := 41082 + nT 12) (na := 0) (lv := [(1, .ref 0), (0, .ref SCR)]) (st := [.ref 922, .ref 922]) (S := zC S1 922) rfl rfl (by decide +kernel) e2 (by decide) (by decide) g15
  have g11 := stepS (pc := 11) (lv := [(1, .ref 0), (0, .ref SCR)]) (st := [.ref 922]) (S := zC S1 922) rfl rfl g12
  have g8 := newS (pc := 8) (n := 922) (ss := 41082) (lv := [(1, .ref 0), (0, .ref SCR)]) (st := []) (S := S1) rfl new_2 (by decide) (Nat.le_add_right _ _) (by decide) (by decide +kernel) g11
  have g7 := stepS (pc := 7) (lv := [(0, .ref SCR)]) (st := [.ref 0]) (S := S1) rfl rfl g8
  have g4 := iniS (pc := 4) (n := 1) (ss := 0 + nT 0) (na := 0) (lv := [(0, .ref SCR)]) (st := [.ref 0, .ref 0]) (S := zC S 0) rfl rfl (by decide +kernel) e1 (by decide) (by decide) g7
  have g3 := stepS (pc := 3) (lv := [(0, .ref SCR)]) (st := [.ref 0]) (S := zC S 0) rfl rfl g4
  have g0 := newS (pc := 0) (n := 0) (ss := 0) (lv := [(0, .ref SCR)]) (st := []) (S := S) rfl new_1 (by decide) (Nat.zero_le _) (by decide) (by decide +kernel) g3
  have hP0 : va_P D classes (sW layR 0 (adA s.heap.size b f) ca S) s.heap := fun k q hk => nomatch (show ([] : List (Nat × va_E))[k]? = some q from hk)
  have hD0 : va_D (sA 0 (adA s.heap.size b f) s.heap.size) (sW layR 0 (adA s.heap.size b f) ca S) := ⟨fun i j p q h1 _ _ => (nomatch (show ([] : List (Nat × va_E))[i]? = some p from h1)), fun k q hk => nomatch (show ([] : List (Nat × va_E))[k]? = some q from hk)⟩
  exact g0 _ s.heap [] hl ⟨hK, hP0, hD0, va_S.rf, hN⟩
