section
/-! total rows that also say what the partial rows do -/
theorem Mt_mp {lay : Nat → Nat × Nat} {d : Nat} {q : mT} {av : List Value} {S : sS} {Q : pst} (h : Mt lay d q av S Q) : Mp lay d q av S Q := fun G r S1 e => by
  obtain ⟨N, r', S1', hr, hq⟩ := h
  have a := hr (max G N) (Nat.le_max_right _ _)
  have b := evd_mono (lay := lay) (F := G) (F2 := max G N) (Nat.le_max_left _ _) d d (Nat.le_refl _) q av S (r, S1) e
  rw [a] at b
  cases b
  exact hq
theorem Mt_i {lay : Nat → Nat × Nat} {d : Nat} {q : mT} {av : List Value} {S : sS} {Q Q1 : pst} {P : Prop} (h : Mt lay d q av S Q) (hp : P → Mp lay d q av S Q1) : Mt lay d q av S (fun r S1 => Q r S1 ∧ (P → Q1 r S1)) := Mt_p h (fun G r S1 e p => hp p G r S1 e)
theorem Mt_m {lay : Nat → Nat × Nat} {d : Nat} {q : mT} {av : List Value} {S : sS} {Q Q1 : pst} (h : Mt lay d q av S Q) (hq : ∀ r S1, Q r S1 → Q1 r S1) : Mt lay d q av S Q1 := by
  obtain ⟨N, r, S1, hr, k⟩ := h
  exact ⟨N, r, S1, hr, hq r S1 k⟩
/-- a call that ended so -/
def EVR (q : mT) (av : List Value) (S : sS) (r : Option Value) (S1 : sS) : Prop := ∃ G d : Nat, evd lay0 G d q av S = some (r, S1)
theorem Mt_e {d : Nat} {q : mT} {av : List Value} {S : sS} {Q : pst} (h : Mt lay0 d q av S Q) : Mt lay0 d q av S (fun r S1 => Q r S1 ∧ EVR q av S r S1) := by
  obtain ⟨N, r, S1, hr, k⟩ := h
  exact ⟨N, r, S1, hr, k, N, d, hr N (Nat.le_refl _)⟩
theorem iv_i {x y : Int} (h : (some (iv x) : Option Value) = some (iv y)) (hx : rg x) (hy : rg y) : x = y := by
  injection h with e
  unfold iv at e
  injection e with e
  have a := congrArg Int32.toInt e
  rw [toI hx, toI hy] at a
  exact a

abbrev Q_to_endsBadly__p (S : sS) : pst := fun r S1 => S = S1 ∧ (∃ z : Int, r = some (iv z) ∧ (0 ≤ z ∧ z ≤ 1) ∧ (z = 1 ↔ ty7 S (Xi S 876 6 - 1) = 108))
set_option maxRecDepth 100000 in
theorem t_to_endsBadly__p {S : sS} (hH : RI S) (h6 : 0 ≤ Xi S 876 6 ∧ Xi S 876 6 ≤ 100000) (d : Nat) : Mp lay0 (d + 2) m_to_endsBadly [.ref 876] S (Q_to_endsBadly__p S) := by
  refine Mp_R rfl rfl (fun fu => ?_)
  have w1 : -2147483648 ≤ Xi S 876 6 ∧ Xi S 876 6 ≤ 2147483647 := Xi_rgI
  refine y_aload_n rfl rfl ?_
  refine y_aload_n rfl rfl ?_
  refine y_gfi rfl rfl rfl rfl rfl ?_
  refine y_iconst rfl ?_
  refine y_isub rfl ?_
  refine y_callV rfl rfl rfl (t_to_typeAt__p hH ((Xi S 876 6) - 1) ⟨by omega, by omega⟩ _) ?_
  rintro _ _ ⟨rfl, z4, rfl, w4, w2, w3⟩
  show Pl _ _ _ _ _ _ [iv z4] _ _
  have gq7 := w2
  clear w2
  refine y_bipush rfl rfl ?_
  refine y_icmp_ne rfl rfl (by unfold rg; omega) (by unfold rg; omega) (fun w5 => ?_) (fun w6 => ?_)
  · refine y_iconst rfl ?_
    refine y_ireturn rfl rfl ?_
    exact ⟨rfl, _, rfl, ⟨by omega, by omega⟩, (by have u := gq7; omega)⟩
  · refine y_iconst rfl ?_
    refine y_goto rfl rfl ?_
    refine y_ireturn rfl rfl ?_
    exact ⟨rfl, _, rfl, ⟨by omega, by omega⟩, (by have u := gq7; omega)⟩
def md_to_takeSentence__b : List rec := [(876, 877, 6, 7), (876, 877, 7, 8), (877, 878, 0, 100000), (878, 879, 0, 100000), (879, 880, 0, 100000)]
abbrev Q_to_takeSentence__b (S : sS) (ts : Nat) (from_ : Int) : pst := fun r S1 => HI S1 ∧ FR md_to_takeSentence__b S S1 ∧ (∃ z : Int, r = some (iv z) ∧ (0 ≤ z ∧ z ≤ 5000) ∧ (TOK S1) ∧ (from_ ≤ z ∧ z ≤ Xi S 876 5) ∧ (Xi S1 876 6 = Xi S1 876 7) ∧ (Xi S1 876 7 ≤ 5002) ∧ (1 ≤ Xi S1 876 7) ∧ (ND S1 (Xi S1 876 7 - 1)) ∧ (from_ < Xi S 876 5 → SEN S1 ts from_ z))
theorem t_to_takeSentence__b {S : sS} (hH : HI S) (ts : Nat) (from_ : Int) (hfrom_ : 0 ≤ from_ ∧ from_ ≤ 5000) (hts : S.2.2 876 4 = some ts) (htp : tp ts) (he : from_ ≤ Xi S 876 5) (d : Nat) : Mt lay0 (d + 4) m_to_takeSentence [.ref 876, iv from_] S (Q_to_takeSentence__b S ts from_) := by
  refine Mt_m (Mt_i (P := from_ < Xi S 876 5) (t_to_takeSentence__2 hH ts from_ hfrom_ hts htp he d) (fun hp => Mt_mp (t_to_takeSentence__f hH ts from_ hfrom_ hts htp hp d))) (fun r S1 h => ?_)
  obtain ⟨⟨h1, h2, z, e, rz, p0, p1, p2, p3, p4, p5⟩, g0⟩ := h
  have G0 : from_ < Xi S 876 5 → SEN S1 ts from_ z := fun hp => by
    obtain ⟨_, fr, z2, e2, rz2, q0, q1, q2, q3, q4, q5⟩ := g0 hp
    have ez : z2 = z := iv_i (e2.symm.trans e) (by unfold rg; omega) (by unfold rg; omega)
    subst ez
    exact q5
  exact ⟨h1, h2, z, e, rz, p0, p1, p2, p3, p4, p5, G0⟩
def md_gr_check__b : List rec := [(890, 891, 1, 2), (890, 891, 2, 3), (890, 891, 3, 4)]
abbrev Q_gr_check__b (S : sS) : pst := fun r S1 => HI S1 ∧ FR md_gr_check__b S S1 ∧ (∃ z : Int, r = some (iv z) ∧ (0 ≤ z ∧ z ≤ 1) ∧ (z = 1 → Xi S1 890 2 = 0 → Xi S 877 (0 : Int).toNat = 102) ∧ (z = 1 → Xi S1 890 2 = 1 → Xi S 877 (1 : Int).toNat = 102) ∧ (z = 1 → 3 ≤ Xi S1 890 2 → Xi S1 890 2 ≤ 6 → SAY S1 (Xi S1 890 1) ∧ 1 ≤ Xi S1 890 1 ∧ Xi S1 890 1 ≤ Xi S 876 7 ∧ Xi S1 877 (Xi S1 890 1 - 1).toNat = 103) ∧ (z = 1 → Xi S1 890 2 = 0 → 0 < Xi S 876 7) ∧ (z = 1 → Xi S1 890 2 = 1 → 1 < Xi S 876 7) ∧ (NFR S ∧ Xi S 876 7 ≤ 5130 ∧ LST S ∧ 1 ≤ Xi S 876 7 → chk (ty7 S) = (z, Xi S1 890 1) ∧ (0 ≤ Xi S1 890 1 ∧ Xi S1 890 1 ≤ Xi S 876 7) ∧ (z = 1 → CKS S1 (ty7 S))))
theorem t_gr_check__b {S : sS} (hH : HI S) (d : Nat) : Mt lay0 (d + 7) m_gr_check [.ref 890] S (Q_gr_check__b S) := by
  refine Mt_m (Mt_i (P := NFR S ∧ Xi S 876 7 ≤ 5130 ∧ LST S ∧ 1 ≤ Xi S 876 7) (t_gr_check__2 hH d) (fun hp => t_gr_check__p hH.1 hp.1 hp.2.1 hp.2.2.1 hp.2.2.2 d)) (fun r S1 h => ?_)
  obtain ⟨⟨h1, h2, z, e, rz, p0, p1, p2, p3, p4⟩, g0⟩ := h
  have G0 : NFR S ∧ Xi S 876 7 ≤ 5130 ∧ LST S ∧ 1 ≤ Xi S 876 7 → chk (ty7 S) = (z, Xi S1 890 1) ∧ (0 ≤ Xi S1 890 1 ∧ Xi S1 890 1 ≤ Xi S 876 7) ∧ (z = 1 → CKS S1 (ty7 S)) := fun hp => by
    obtain ⟨_, fr, z2, e2, rz2, q0, q1, q2⟩ := g0 hp
    have ez : z2 = z := iv_i (e2.symm.trans e) (by unfold rg; omega) (by unfold rg; omega)
    subst ez
    exact ⟨q0, q1, q2⟩
  exact ⟨h1, h2, z, e, rz, p0, p1, p2, p3, p4, G0⟩
def md_re_beginSentence__b : List rec := [(1, 2, 3, 4), (2, 3, 0, 100000), (3, 4, 0, 100000), (4, 5, 0, 100000), (5, 6, 0, 100000), (10, 11, 0, 100000), (11, 12, 0, 100000), (12, 13, 0, 100000), (13, 14, 0, 100000), (18, 19, 0, 100000), (66, 106, 0, 100000), (107, 147, 0, 100000), (148, 188, 0, 100000), (246, 247, 2, 3), (246, 247, 5, 6), (246, 247, 8, 9), (248, 272, 0, 100000), (274, 275, 0, 100000), (275, 276, 0, 100000), (276, 876, 0, 1), (276, 876, 1, 2), (276, 876, 2, 3), (276, 876, 3, 4), (276, 876, 4, 5), (276, 876, 5, 6), (276, 876, 6, 7), (876, 877, 7, 8), (876, 877, 8, 9), (876, 877, 9, 10), (877, 878, 0, 100000), (878, 879, 0, 100000), (879, 880, 0, 100000), (882, 883, 3, 4), (882, 883, 10, 11), (883, 884, 0, 100000), (884, 885, 0, 100000), (885, 886, 0, 100000), (886, 887, 0, 100000), (887, 888, 0, 100000), (888, 889, 0, 100000), (891, 892, 9, 10), (892, 893, 0, 100000), (893, 894, 0, 100000), (894, 895, 0, 100000), (895, 896, 3, 4), (895, 896, 4, 5), (895, 896, 5, 6), (895, 896, 6, 7), (895, 896, 7, 8), (895, 896, 8, 9), (895, 896, 9, 10), (895, 896, 10, 11), (895, 896, 11, 12), (895, 896, 12, 13), (895, 896, 13, 14), (895, 896, 14, 15), (896, 897, 0, 100000), (897, 898, 0, 100000), (898, 899, 0, 100000), (899, 900, 4, 5), (899, 900, 5, 6), (899, 900, 6, 7)]
abbrev Q_re_beginSentence__b (S : sS) (ts : Nat) : pst := fun r S1 => HI S1 ∧ FR md_re_beginSentence__b S S1 ∧ (∃ z : Int, r = some (iv z) ∧ (0 ≤ z ∧ z ≤ 1) ∧ (z = 1 → WI S1) ∧ (z = 0 → Xi S1 876 8 ≠ 0) ∧ (BGP (uI S 891 9 (Int32.ofInt 0)) ts → BGV (uI S 891 9 (Int32.ofInt 0)) S1 ts z))
theorem t_re_beginSentence__b {S : sS} (hH : HI S) (ts : Nat) (hts : S.2.2 876 4 = some ts) (htp : tp ts) (hW : WI S) (hT : TOK S) (hS : SRX S) (hx : ts = txr S) (hcr : Xi S 876 6 = Xi S 876 7) (p0 : Xi S 890 2 = 0 → Xi S 877 (0 : Int).toNat = 102 ∧ 0 < Xi S 876 7) (p1 : Xi S 890 2 = 1 → Xi S 877 (1 : Int).toNat = 102 ∧ 1 < Xi S 876 7) (p3 : 3 ≤ Xi S 890 2 → Xi S 890 2 ≤ 6 → SAY S (Xi S 876 6)) (p4 : 3 ≤ Xi S 890 2 → Xi S 890 2 ≤ 6 → Xi S 877 (Xi S 876 6 - 1).toNat = 103) (pm : 1 ≤ Xi S 876 6) (p8 : Xi S 890 2 ≤ 8) (d : Nat) : Mt lay0 (d + 7) m_re_beginSentence [.ref 891] S (Q_re_beginSentence__b S ts) := by
  refine Mt_m (Mt_i (P := BGP (uI S 891 9 (Int32.ofInt 0)) ts) (t_re_beginSentence hH ts hts htp hW hT hS hx hcr p0 p1 p3 p4 pm p8 d) (fun hp => t_re_beginSentence__p hH.1 ts hts htp hp d)) (fun r S1 h => ?_)
  obtain ⟨⟨h1, h2, z, e, rz, p0, p1⟩, g0⟩ := h
  have G0 : BGP (uI S 891 9 (Int32.ofInt 0)) ts → BGV (uI S 891 9 (Int32.ofInt 0)) S1 ts z := fun hp => by
    obtain ⟨_, fr, z2, e2, rz2, q0⟩ := g0 hp
    have ez : z2 = z := iv_i (e2.symm.trans e) (by unfold rg; omega) (by unfold rg; omega)
    subst ez
    exact q0
  exact ⟨h1, h2, z, e, rz, p0, p1, G0⟩
def md_re_tellSentence__b : List rec := [(1, 2, 3, 4), (2, 3, 0, 100000), (3, 4, 0, 100000), (4, 5, 0, 100000), (5, 6, 0, 100000), (6, 7, 0, 100000), (7, 8, 0, 100000), (8, 9, 0, 100000), (9, 10, 0, 100000), (10, 11, 0, 100000), (11, 12, 0, 100000), (14, 15, 0, 100000), (15, 16, 0, 100000), (16, 17, 0, 100000), (17, 18, 0, 100000), (19, 20, 0, 100000), (20, 21, 12, 13), (21, 22, 0, 100000), (22, 23, 0, 100000), (23, 24, 0, 100000), (25, 65, 0, 100000), (66, 106, 0, 100000), (107, 147, 0, 100000), (148, 188, 0, 100000), (189, 195, 0, 100000), (196, 220, 0, 100000), (221, 245, 0, 100000), (876, 877, 8, 9), (876, 877, 9, 10), (891, 892, 9, 10), (891, 892, 10, 11), (891, 892, 11, 12), (891, 892, 12, 13), (892, 893, 0, 100000), (893, 894, 0, 100000), (894, 895, 0, 100000), (895, 896, 8, 9), (895, 896, 9, 10), (895, 896, 10, 11), (895, 896, 11, 12), (895, 896, 12, 13), (895, 896, 13, 14), (895, 896, 14, 15), (896, 897, 0, 100000), (897, 898, 0, 100000), (898, 899, 0, 100000)]
abbrev Q_re_tellSentence__b (S : sS) : pst := fun r S1 => HI S1 ∧ FR md_re_tellSentence__b S S1 ∧ (∃ z : Int, r = some (iv z) ∧ (0 ≤ z ∧ z ≤ 1) ∧ (z = 1 → WI S1) ∧ (z = 0 → Xi S1 876 8 ≠ 0) ∧ (TSP (uI (uI S 891 9 (Int32.ofInt 0)) 891 11 (Int32.ofInt 0)) → TSV (uI (uI S 891 9 (Int32.ofInt 0)) 891 11 (Int32.ofInt 0)) S1 z))
theorem t_re_tellSentence__b {S : sS} (hH : HI S) (hW : WI S) (hT : TOK S) (hS : SRX S) (d : Nat) : Mt lay0 (d + 7) m_re_tellSentence [.ref 891] S (Q_re_tellSentence__b S) := by
  refine Mt_m (Mt_i (P := TSP (uI (uI S 891 9 (Int32.ofInt 0)) 891 11 (Int32.ofInt 0))) (t_re_tellSentence hH hW hT hS d) (fun hp => t_re_tellSentence__p hH.1 hp d)) (fun r S1 h => ?_)
  obtain ⟨⟨h1, h2, z, e, rz, p0, p1⟩, g0⟩ := h
  have G0 : TSP (uI (uI S 891 9 (Int32.ofInt 0)) 891 11 (Int32.ofInt 0)) → TSV (uI (uI S 891 9 (Int32.ofInt 0)) 891 11 (Int32.ofInt 0)) S1 z := fun hp => by
    obtain ⟨_, fr, z2, e2, rz2, q0⟩ := g0 hp
    have ez : z2 = z := iv_i (e2.symm.trans e) (by unfold rg; omega) (by unfold rg; omega)
    subst ez
    exact q0
  exact ⟨h1, h2, z, e, rz, p0, p1, G0⟩
def md_to_wrong__b : List rec := [(876, 877, 8, 9), (876, 877, 9, 10)]
abbrev Q_to_wrong__b (S : sS) (code : Int) (row : Int) : pst := fun r S1 => HI S1 ∧ FR md_to_wrong__b S S1 ∧ (∃ z : Int, r = some (iv z) ∧ (0 ≤ z ∧ z ≤ 1) ∧ (z = 0) ∧ (1 ≤ code → Xi S1 876 8 ≠ 0) ∧ (True → (Xi S 876 8 = 0 → Xi S1 876 8 = code ∧ Xi S1 876 9 = pc7 S row) ∧ (Xi S 876 8 ≠ 0 → Xi S1 876 8 = Xi S 876 8 ∧ Xi S1 876 9 = Xi S 876 9)))
theorem t_to_wrong__b {S : sS} (hH : HI S) (code : Int) (row : Int) (hcode : 0 ≤ code ∧ code ≤ 9) (hrow : -2147483648 ≤ row ∧ row ≤ 2147483647) (d : Nat) : Mt lay0 (d + 1) m_to_wrong [.ref 876, iv code, iv row] S (Q_to_wrong__b S code row) := by
  refine Mt_m (Mt_i (P := True) (t_to_wrong hH code row hcode hrow d) (fun hp => t_to_wrong__p hH.1 code row ⟨by omega, by omega⟩ hrow d)) (fun r S1 h => ?_)
  obtain ⟨⟨h1, h2, z, e, rz, p0, p1⟩, g0⟩ := h
  have G0 : True → (Xi S 876 8 = 0 → Xi S1 876 8 = code ∧ Xi S1 876 9 = pc7 S row) ∧ (Xi S 876 8 ≠ 0 → Xi S1 876 8 = Xi S 876 8 ∧ Xi S1 876 9 = Xi S 876 9) := fun hp => by
    obtain ⟨_, fr, z2, e2, rz2, q0, q1, q2⟩ := g0 hp
    have ez : z2 = z := iv_i (e2.symm.trans e) (by unfold rg; omega) (by unfold rg; omega)
    subst ez
    exact ⟨q1, q2⟩
  exact ⟨h1, h2, z, e, rz, p0, p1, G0⟩
abbrev Q_to_endsBadly__b (S : sS) : pst := fun r S1 => S = S1 ∧ (∃ z : Int, r = some (iv z) ∧ (0 ≤ z ∧ z ≤ 1) ∧ (True → (z = 1 ↔ ty7 S (Xi S 876 6 - 1) = 108)))
theorem t_to_endsBadly__b {S : sS} (hH : HI S) (d : Nat) : Mt lay0 (d + 2) m_to_endsBadly [.ref 876] S (Q_to_endsBadly__b S) := by
  refine Mt_m (Mt_i (P := True) (t_to_endsBadly hH d) (fun hp => t_to_endsBadly__p hH.1 (by have h6 : 0 ≤ Xi S 876 6 ∧ Xi S 876 6 ≤ 5002 := hH.c _ _; omega) d)) (fun r S1 h => ?_)
  obtain ⟨⟨h1, z, e, rz⟩, g0⟩ := h
  have G0 : True → (z = 1 ↔ ty7 S (Xi S 876 6 - 1) = 108) := fun hp => by
    obtain ⟨_, z2, e2, rz2, q0⟩ := g0 hp
    have ez : z2 = z := iv_i (e2.symm.trans e) (by unfold rg; omega) (by unfold rg; omega)
    subst ez
    exact q0
  exact ⟨h1, z, e, rz, G0⟩
def md_rs_startAgain__b : List rec := [(1, 2, 3, 4), (2, 3, 0, 100000), (3, 4, 0, 100000), (4, 5, 0, 100000), (5, 6, 0, 100000), (6, 7, 0, 100000), (7, 8, 0, 100000), (9, 10, 0, 100000), (10, 11, 0, 100000), (11, 12, 0, 100000), (19, 20, 0, 100000), (20, 21, 12, 13), (21, 22, 0, 100000), (22, 23, 0, 100000), (23, 24, 0, 100000), (25, 65, 0, 100000), (66, 106, 0, 100000), (189, 195, 0, 100000), (196, 220, 0, 100000), (246, 247, 2, 3), (246, 247, 5, 6), (246, 247, 8, 9), (882, 883, 3, 4), (883, 884, 0, 100000), (884, 885, 0, 100000), (885, 886, 0, 100000), (886, 887, 0, 100000), (887, 888, 0, 100000), (891, 892, 10, 11)]
abbrev Q_rs_startAgain__b (S : sS) : pst := fun r S1 => HI S1 ∧ FR md_rs_startAgain__b S S1 ∧ (r = none ∧ (WI S1) ∧ (Xi S1 246 2 = 0) ∧ (EVR m_rs_startAgain [.ref 0] S none S1))
theorem t_rs_startAgain__b {S : sS} (hH : HI S) (d : Nat) : Mt lay0 (d + 9) m_rs_startAgain [.ref 0] S (Q_rs_startAgain__b S) := by
  refine Mt_m (Mt_e (t_rs_startAgain hH d)) (fun r S1 h => ?_)
  obtain ⟨⟨h1, h2, e, p0, p1⟩, ev⟩ := h
  exact ⟨h1, h2, e, p0, p1, by rw [← e]; exact ev⟩
def md_wo_placePlayer__b : List rec := [(22, 23, 0, 100000), (23, 24, 0, 100000)]
abbrev Q_wo_placePlayer__b (S : sS) : pst := fun r S1 => HI S1 ∧ FR md_wo_placePlayer__b S S1 ∧ (r = none ∧ (EVR m_wo_placePlayer [.ref 20] S none S1))
theorem t_wo_placePlayer__b {S : sS} (hH : HI S) (d : Nat) : Mt lay0 (d + 3) m_wo_placePlayer [.ref 20] S (Q_wo_placePlayer__b S) := by
  refine Mt_m (Mt_e (t_wo_placePlayer hH d)) (fun r S1 h => ?_)
  obtain ⟨⟨h1, h2, e⟩, ev⟩ := h
  exact ⟨h1, h2, e, by rw [← e]; exact ev⟩
def md_bo_putInOrder__b : List rec := [(272, 273, 0, 100000)]
abbrev Q_bo_putInOrder__b (S : sS) : pst := fun r S1 => HI S1 ∧ FR md_bo_putInOrder__b S S1 ∧ (r = none ∧ (ORD S1) ∧ (EVR m_bo_putInOrder [.ref 246] S none S1))
theorem t_bo_putInOrder__b {S : sS} (hH : HI S) (d : Nat) : Mt lay0 (d + 3) m_bo_putInOrder [.ref 246] S (Q_bo_putInOrder__b S) := by
  refine Mt_m (Mt_e (t_bo_putInOrder hH d)) (fun r S1 h => ?_)
  obtain ⟨⟨h1, h2, e, p0⟩, ev⟩ := h
  exact ⟨h1, h2, e, p0, by rw [← e]; exact ev⟩

/-! the class: read, and its way -/
/-- a fault is noted -/
def WRG (V U1 : sS) (code row : Int) : Prop := FR md_to_wrong__b V U1 ∧ HI U1 ∧ (Xi V 876 8 = 0 → Xi U1 876 8 = code ∧ Xi U1 876 9 = pc7 V row) ∧ (Xi V 876 8 ≠ 0 → Xi U1 876 8 = Xi V 876 8 ∧ Xi U1 876 9 = Xi V 876 9)
/-- a sentence is taken -/
def TKB (U V : sS) (ts : Nat) (a z : Int) : Prop := HI V ∧ FR md_to_takeSentence__b U V ∧ TOK V ∧ (a ≤ z ∧ z ≤ Xi U 876 5) ∧ (Xi V 876 6 = Xi V 876 7 ∧ Xi V 876 7 ≤ 5002 ∧ 1 ≤ Xi V 876 7) ∧ ND V (Xi V 876 7 - 1) ∧ SEN V ts a z
def CS0 (ts : Nat) (U : sS) (a : Int) (V : sS) (z a1 : Int) : Prop := (HI U ∧ WI U ∧ U.2.2 876 4 = some ts ∧ U.2.2 20 1 = some ts ∧ 0 ≤ a ∧ a < Xi U 876 5 ∧ Xi U 876 8 = 0) ∧ TKB U V ts a z ∧ a1 = sk7 (Xi V ts) (Xi V 876 5) z
def CS1 (ts : Nat) (U : sS) (a : Int) (V W : sS) (z a1 c : Int) : Prop := CS0 ts U a V z a1 ∧ ty7 V (Xi V 876 6 - 1) ≠ 108 ∧ HI W ∧ FR md_gr_check__b V W ∧ (c = 0 ∨ c = 1) ∧ (NFR V ∧ Xi V 876 7 ≤ 5130 ∧ LST V ∧ 1 ≤ Xi V 876 7 → chk (ty7 V) = (c, Xi W 890 1) ∧ (0 ≤ Xi W 890 1 ∧ Xi W 890 1 ≤ Xi V 876 7) ∧ (c = 1 → CKS W (ty7 V))) ∧ WI W ∧ TOK W ∧ Xi W 876 6 = Xi W 876 7 ∧ SRX W ∧ txr W = ts
def BGB (W U1 : sS) (ts : Nat) : Prop := ∃ z : Int, FR md_re_beginSentence__b W U1 ∧ HI U1 ∧ (z = 0 ∨ z = 1) ∧ (z = 1 → WI U1) ∧ (z = 0 → Xi U1 876 8 ≠ 0) ∧ (BGP (uI W 891 9 (Int32.ofInt 0)) ts → BGV (uI W 891 9 (Int32.ofInt 0)) U1 ts z)
def TLB (W U1 : sS) : Prop := ∃ z : Int, FR md_re_tellSentence__b W U1 ∧ HI U1 ∧ (z = 0 ∨ z = 1) ∧ (z = 1 → WI U1) ∧ (z = 0 → Xi U1 876 8 ≠ 0) ∧ (TSP (uI (uI W 891 9 (Int32.ofInt 0)) 891 11 (Int32.ofInt 0)) → TSV (uI (uI W 891 9 (Int32.ofInt 0)) 891 11 (Int32.ofInt 0)) U1 z)
/-- one sentence -/
def CST (ts : Nat) (U : sS) (a : Int) (U1 : sS) (a1 : Int) : Prop := ∃ (V : sS) (z : Int), (CS0 ts U a V z a1 ∧ ty7 V (Xi V 876 6 - 1) = 108 ∧ WRG V U1 1 (Xi V 876 7 - 1)) ∨ ∃ (W : sS) (c : Int), CS1 ts U a V W z a1 c ∧ (c = 0 → WRG W U1 2 (Xi W 890 1)) ∧ (c = 1 → Xi W 890 2 < 9 → BGB W U1 ts) ∧ (c = 1 → 9 ≤ Xi W 890 2 → TLB W U1)
def PCH (ts : Nat) (U0 : sS) (a0 : Int) : Nat → sS → Int → Prop
  | 0, U, a => U = U0 ∧ a = a0
  | n + 1, U, a => ∃ (X : sS) (b : Int), PCH ts U0 a0 n X b ∧ CST ts X b U a
/-- what stands ahead of the first sentence -/
def OPN (U0 : sS) (ts : Nat) : Prop := ∃ B C : sS, (∃ A : sS, HI A ∧ EVR m_rs_startAgain [.ref 0] A none B ∧ FR md_rs_startAgain__b A B) ∧ C = uR B 20 1 (some ts) ∧ FR md_to_open C U0
def RTR (S : sS) (ts : Nat) (n : Int) (U : sS) (a : Int) : Prop := ∃ (U0 : sS) (a0 : Int), 0 ≤ n ∧ (HI U0 ∧ U0.2.2 876 4 = some ts ∧ U0.2.2 20 1 = some ts) ∧ OPN U0 ts ∧ Xi U0 876 5 = Xi S 0 10 ∧ Xi U0 876 8 = 0 ∧ a0 = sk7 (Xi U0 ts) (Xi U0 876 5) 0 ∧ PCH ts U0 a0 n.toNat U a
def RTX (S : sS) (ts : Nat) (n : Int) (U : sS) : Prop := ∃ a : Int, RTR S ts n U a ∧ ¬ (a < Xi U 876 5 ∧ n < Xi U 876 5 ∧ Xi U 876 8 = 0)
def RFX (S : sS) (ts : Nat) (n : Int) (X : sS) : Prop := ∃ U W : sS, RTX S ts n U ∧ (n = 0 → WRG U W 2 (-1)) ∧ (n ≠ 0 → W = U) ∧ X = uI W 0 11 (Int32.ofInt (Xi W 876 8))
def RFP (S : sS) (ts : Nat) (n : Int) (Y : sS) : Prop := ∃ X : sS, RFX S ts n X ∧ Xi X 876 8 = 0 ∧ HI X ∧ EVR m_wo_placePlayer [.ref 20] X none Y ∧ FR md_wo_placePlayer__b X Y
def RFN (S : sS) (ts : Nat) (S1 : sS) (z : Int) : Prop := (∃ (n : Int) (X : sS), RFX S ts n X ∧ Xi X 876 8 ≠ 0 ∧ z = -10 - Xi S1 876 9 ∧ HI X ∧ EVR m_rs_startAgain [.ref 0] X none S1 ∧ FR md_rs_startAgain__b X S1) ∨ (∃ Y : sS, RFP S ts z Y ∧ HI Y ∧ EVR m_bo_putInOrder [.ref 246] Y none S1 ∧ FR md_bo_putInOrder__b Y S1)
theorem rtr_s {S U U1 : sS} {ts : Nat} {n a a1 : Int} (h : RTR S ts n U a) (hn : 0 ≤ n) (c : CST ts U a U1 a1) : RTR S ts (n + 1) U1 a1 := by
  obtain ⟨U0, a0, _, h1, h2, h3, h4, h5, h6⟩ := h
  refine ⟨U0, a0, by omega, h1, h2, h3, h4, h5, ?_⟩
  rw [show (n + 1).toNat = n.toNat + 1 by omega]
  exact ⟨U, a, h6, c⟩
theorem cst_1 {ts : Nat} {U V U1 : sS} {a z a1 : Int} (h : CS0 ts U a V z a1) (e : ty7 V (Xi V 876 6 - 1) = 108) (w : WRG V U1 1 (Xi V 876 7 - 1)) : CST ts U a U1 a1 := ⟨V, z, Or.inl ⟨h, e, w⟩⟩
theorem cst_2 {ts : Nat} {U V W U1 : sS} {a z a1 c : Int} (h : CS1 ts U a V W z a1 c) (e : c = 0) (w : WRG W U1 2 (Xi W 890 1)) : CST ts U a U1 a1 := ⟨V, z, Or.inr ⟨W, c, h, fun _ => w, fun q => absurd q (by omega), fun q => absurd q (by omega)⟩⟩
theorem cst_3 {ts : Nat} {U V W U1 : sS} {a z a1 c : Int} (h : CS1 ts U a V W z a1 c) (e : c ≠ 0) (s : Xi W 890 2 < 9) (w : BGB W U1 ts) : CST ts U a U1 a1 := ⟨V, z, Or.inr ⟨W, c, h, fun q => absurd q e, fun _ _ => w, fun _ q => absurd q (by omega)⟩⟩
theorem cst_4 {ts : Nat} {U V W U1 : sS} {a z a1 c : Int} (h : CS1 ts U a V W z a1 c) (e : c ≠ 0) (s : 9 ≤ Xi W 890 2) (w : TLB W U1) : CST ts U a U1 a1 := ⟨V, z, Or.inr ⟨W, c, h, fun q => absurd q e, fun _ q => absurd q (by omega), fun _ _ => w⟩⟩
theorem rfx_0 {S U X : sS} {ts : Nat} {n : Int} (h : RTX S ts n U) (hn : n ≠ 0) (e : X = uI U 0 11 (Int32.ofInt (Xi U 876 8))) : RFX S ts n X := ⟨U, U, h, fun q => absurd q hn, fun _ => rfl, e⟩
theorem rfx_1 {S U W X : sS} {ts : Nat} {n : Int} (h : RTX S ts n U) (hn : n = 0) (w : WRG U W 2 (-1)) (e : X = uI W 0 11 (Int32.ofInt (Xi W 876 8))) : RFX S ts n X := ⟨U, W, h, fun _ => w, fun q => absurd hn q, e⟩
theorem rfp_i {S X Y : sS} {ts : Nat} {n : Int} (h : RFX S ts n X) (f : Xi X 876 8 = 0) (hX : HI X) (e : EVR m_wo_placePlayer [.ref 20] X none Y) (F : FR md_wo_placePlayer__b X Y) : RFP S ts n Y := ⟨X, h, f, hX, e, F⟩
theorem rfn_0 {S X S1 : sS} {ts : Nat} {n : Int} (h : RFX S ts n X) (f : Xi X 876 8 ≠ 0) (hX : HI X) (e : EVR m_rs_startAgain [.ref 0] X none S1) (F : FR md_rs_startAgain__b X S1) : RFN S ts S1 (-10 - Xi S1 876 9) := Or.inl ⟨n, X, h, f, rfl, hX, e, F⟩
theorem rfn_1 {S Y S1 : sS} {ts : Nat} {n : Int} (h : RFP S ts n Y) (hY : HI Y) (e : EVR m_bo_putInOrder [.ref 246] Y none S1) (F : FR md_bo_putInOrder__b Y S1) : RFN S ts S1 n := Or.inr ⟨Y, h, hY, e, F⟩
def md_rs_read__t : List rec := [(0, 1, 8, 9), (0, 1, 9, 10), (0, 1, 10, 11), (0, 1, 11, 12), (1, 2, 3, 4), (2, 3, 0, 100000), (3, 4, 0, 100000), (4, 5, 0, 100000), (5, 6, 0, 100000), (6, 7, 0, 100000), (7, 8, 0, 100000), (8, 9, 0, 100000), (9, 10, 0, 100000), (10, 11, 0, 100000), (11, 12, 0, 100000), (12, 13, 0, 100000), (13, 14, 0, 100000), (14, 15, 0, 100000), (15, 16, 0, 100000), (16, 17, 0, 100000), (17, 18, 0, 100000), (18, 19, 0, 100000), (19, 20, 0, 100000), (20, 21, 1, 2), (20, 21, 12, 13), (21, 22, 0, 100000), (22, 23, 0, 100000), (23, 24, 0, 100000), (25, 65, 0, 100000), (66, 106, 0, 100000), (107, 147, 0, 100000), (148, 188, 0, 100000), (189, 195, 0, 100000), (196, 220, 0, 100000), (221, 245, 0, 100000), (246, 247, 2, 3), (246, 247, 5, 6), (246, 247, 8, 9), (248, 272, 0, 100000), (272, 273, 0, 100000), (274, 275, 0, 100000), (275, 276, 0, 100000), (276, 876, 0, 1), (276, 876, 1, 2), (276, 876, 2, 3), (276, 876, 3, 4), (276, 876, 4, 5), (276, 876, 5, 6), (276, 876, 6, 7), (876, 877, 4, 5), (876, 877, 5, 6), (876, 877, 6, 7), (876, 877, 7, 8), (876, 877, 8, 9), (876, 877, 9, 10), (877, 878, 0, 100000), (878, 879, 0, 100000), (879, 880, 0, 100000), (882, 883, 3, 4), (882, 883, 10, 11), (883, 884, 0, 100000), (884, 885, 0, 100000), (885, 886, 0, 100000), (886, 887, 0, 100000), (887, 888, 0, 100000), (888, 889, 0, 100000), (890, 891, 1, 2), (890, 891, 2, 3), (890, 891, 3, 4), (891, 892, 9, 10), (891, 892, 10, 11), (891, 892, 11, 12), (891, 892, 12, 13), (892, 893, 0, 100000), (893, 894, 0, 100000), (894, 895, 0, 100000), (895, 896, 3, 4), (895, 896, 4, 5), (895, 896, 5, 6), (895, 896, 6, 7), (895, 896, 7, 8), (895, 896, 8, 9), (895, 896, 9, 10), (895, 896, 10, 11), (895, 896, 11, 12), (895, 896, 12, 13), (895, 896, 13, 14), (895, 896, 14, 15), (896, 897, 0, 100000), (897, 898, 0, 100000), (898, 899, 0, 100000), (899, 900, 4, 5), (899, 900, 5, 6), (899, 900, 6, 7), (900, 901, 4, 5)]
end
section
/-! the reference: what is no token of a sentence -/
def ODD7 (S : sS) (first z : Int) : Prop := (Xi S 907 first.toNat = 5 ∧ z = -1) ∨ (Xi S 907 first.toNat ≠ 5 ∧ ∃ k : Int, first ≤ k ∧ (∀ j : Int, first ≤ j → j < k → Xi S 907 j.toNat ≠ 46 ∧ Xi S 907 j.toNat ≠ 1 ∧ Xi S 907 j.toNat ≠ 2) ∧ (Xi S 907 k.toNat = 46 ∨ Xi S 907 k.toNat = 1 ∨ Xi S 907 k.toNat = 2) ∧ (Xi S 907 k.toNat = 2 → z = k) ∧ (Xi S 907 k.toNat ≠ 2 → z = -1))
abbrev Q_mo_oddOf__f (S : sS) (n : Nat) (first : Int) : pst := fun r S1 => S = S1 ∧ (∃ z : Int, r = some (iv z) ∧ (-1 ≤ z ∧ z ≤ 5001) ∧ (z ≠ -1 → z ≤ n) ∧ (ODD7 S first z))
set_option maxRecDepth 100000 in
theorem t_mo_oddOf__f {S : sS} (hH : HI S) (n : Nat) (first : Int) (hfirst : 0 ≤ first ∧ first ≤ 5001) (hT : TK S n) (ht : first ≤ n) (d : Nat) : Mt lay0 (d + 1) m_mo_oddOf [.ref 904, iv first] S (Q_mo_oddOf__f S n first) := by
  refine Mt_R rfl rfl ?_
  have hn5 := hT.1
  have C14 : ∀ (n14 : Nat) (v2 : Int), (0 ≤ v2 ∧ v2 ≤ 5001) → (first ≤ v2) → (v2 ≤ n) → (Hid (Xi S 907 first.toNat ≠ 5)) → (Hid (∀ j : Int, first ≤ j → j < v2 → Xi S 907 j.toNat ≠ 46 ∧ Xi S 907 j.toNat ≠ 1 ∧ Xi S 907 j.toNat ≠ 2)) → n14 = (5002 - v2).toNat → Rl lay0 (d + 0) m_mo_oddOf 14 [(0, .ref 904), (2, iv v2)] [] S (Q_mo_oddOf__f S n first) := by
    intro n14
    induction n14 using Nat.strongRecOn with
    | ind n14 ih14 =>
      intro v2 w1 w2 w3 n14 O14 hm14
      have C51 : ∀  (v2 : Int), (0 ≤ v2 ∧ v2 ≤ 5001) → (first ≤ v2) → (v2 ≤ n) → (Hid (Xi S 907 first.toNat ≠ 5)) → (Hid (∀ j : Int, first ≤ j → j < v2 → Xi S 907 j.toNat ≠ 46 ∧ Xi S 907 j.toNat ≠ 1 ∧ Xi S 907 j.toNat ≠ 2)) → (Xi S 907 (v2).toNat = 46 ∨ Xi S 907 (v2).toNat = 1 ∨ Xi S 907 (v2).toNat = 2) → Rl lay0 (d + 0) m_mo_oddOf 51 [(0, .ref 904), (2, iv v2)] [] S (Q_mo_oddOf__f S n first) := by
        intro v2 w4 w5 w6 n51 O51 w7
        refine l_aload_n rfl rfl ?_
        refine l_gfr rfl rfl rfl rfl rfl (hH.r 904 4 907 rfl) ?_
        refine l_iload_n rfl rfl ?_
        refine l_iaload (n := 5002) rfl rfl (by omega) (by omega) (by unfold rg; omega) ?_
        have w8 : 0 ≤ (Xi S 907 ((v2).toNat)) ∧ (Xi S 907 ((v2).toNat)) ≤ 154 := hH.c _ _
        have e56 : (Xi S 907 ((v2).toNat)) = Xi S 907 (v2).toNat := rfl
        refine l_iconst rfl ?_
        refine l_icmp_ne rfl rfl (by unfold rg; omega) (by unfold rg; omega) (fun w9 => ?_) (fun w10 => ?_)
        · refine l_iconst rfl ?_
          refine l_ireturn rfl rfl ?_
          exact ⟨rfl, _, rfl, ⟨by omega, by omega⟩, (by first | assumption | omega), (by first | (have t := K12; exact Or.inl ⟨t12, rfl⟩) | exact Or.inr ⟨n51.o, v2, by omega, O51.o, by omega, fun q => by omega, fun q => by omega⟩)⟩
        · refine l_iload_n rfl rfl ?_
          refine l_goto rfl rfl ?_
          refine l_ireturn rfl rfl ?_
          exact ⟨rfl, _, rfl, ⟨by omega, by omega⟩, (by first | assumption | omega), (by first | (have t := K12; exact Or.inl ⟨t12, rfl⟩) | exact Or.inr ⟨n51.o, v2, by omega, O51.o, by omega, fun q => by omega, fun q => by omega⟩)⟩
      refine l_aload_n rfl rfl ?_
      refine l_gfr rfl rfl rfl rfl rfl (hH.r 904 4 907 rfl) ?_
      refine l_iload_n rfl rfl ?_
      refine l_iaload (n := 5002) rfl rfl (by omega) (by omega) (by unfold rg; omega) ?_
      have w11 : 0 ≤ (Xi S 907 ((v2).toNat)) ∧ (Xi S 907 ((v2).toNat)) ≤ 154 := hH.c _ _
      have e19 : (Xi S 907 ((v2).toNat)) = Xi S 907 (v2).toNat := rfl
      refine l_bipush rfl rfl ?_
      refine l_icmp_eq rfl rfl (by unfold rg; omega) (by unfold rg; omega) (fun w12 => ?_) (fun w13 => ?_)
      · exact Rl_weak (C51 (v2) (by omega) (by omega) (by omega) (n14) (O14) (by omega)) (And.intro rfl (And.intro rfl (True.intro)))
      · refine l_aload_n rfl rfl ?_
        refine l_gfr rfl rfl rfl rfl rfl (hH.r 904 4 907 rfl) ?_
        refine l_iload_n rfl rfl ?_
        refine l_iaload (n := 5002) rfl rfl (by omega) (by omega) (by unfold rg; omega) ?_
        have u30 : (Xi S 907 ((v2).toNat)) ≠ 1 → v2 < n := fun q => tk_lt hT (by omega) (by omega) q
        have e30 : (Xi S 907 ((v2).toNat)) = Xi S 907 (v2).toNat := rfl
        refine l_iconst rfl ?_
        refine l_icmp_eq rfl rfl (by unfold rg; omega) (by unfold rg; omega) (fun w14 => ?_) (fun w15 => ?_)
        · exact Rl_weak (C51 (v2) (by omega) (by omega) (by omega) (n14) (O14) (by omega)) (And.intro rfl (And.intro rfl (True.intro)))
        · refine l_aload_n rfl rfl ?_
          refine l_gfr rfl rfl rfl rfl rfl (hH.r 904 4 907 rfl) ?_
          refine l_iload_n rfl rfl ?_
          refine l_iaload (n := 5002) rfl rfl (by omega) (by omega) (by unfold rg; omega) ?_
          have e40 : (Xi S 907 ((v2).toNat)) = Xi S 907 (v2).toNat := rfl
          refine l_iconst rfl ?_
          refine l_icmp_eq rfl rfl (by unfold rg; omega) (by unfold rg; omega) (fun w16 => ?_) (fun w17 => ?_)
          · exact Rl_weak (C51 (v2) (by omega) (by omega) (by omega) (n14) (O14) (by omega)) (And.intro rfl (And.intro rfl (True.intro)))
          · refine l_iinc rfl rfl rfl rfl ?_
            refine l_goto rfl rfl ?_
            exact Rl_weak (ih14 _ (by omega) ((v2 + 1)) (by omega) (by omega) (by omega) (by first | assumption | (unfold Hid; omega)) (by first | exact (fun j a b => by exfalso; omega) | exact (fun j a b => by by_cases w : j = v2; (rw [w]; omega); exact O14.o j a (by omega))) rfl) (And.intro rfl (And.intro rfl (True.intro)))
  refine l_iload_n rfl rfl ?_
  refine l_istore_n rfl rfl rfl ?_
  refine l_aload_n rfl rfl ?_
  refine l_gfr rfl rfl rfl rfl rfl (hH.r 904 4 907 rfl) ?_
  refine l_iload_n rfl rfl ?_
  refine l_iaload (n := 5002) rfl rfl (by omega) (by omega) (by unfold rg; omega) ?_
  have w18 : 0 ≤ (Xi S 907 ((first).toNat)) ∧ (Xi S 907 ((first).toNat)) ≤ 154 := hH.c _ _
  have t7 : (Xi S 907 ((first).toNat)) = Xi S 907 first.toNat := rfl
  refine l_iconst rfl ?_
  refine l_icmp_ne rfl rfl (by unfold rg; omega) (by unfold rg; omega) (fun w19 => ?_) (fun w20 => ?_)
  · exact Rl_weak (C14 _ (first) (by omega) (by omega) (by omega) (by first | assumption | (unfold Hid; omega)) (by first | exact (fun j a b => by exfalso; omega) | exact (fun j a b => by by_cases w : j = v2; (rw [w]; omega); exact O14.o j a (by omega))) rfl) (And.intro rfl (And.intro rfl (True.intro)))
  · refine l_iconst rfl ?_
    have K12 : True := trivial
    have t12 : Xi S 907 first.toNat = 5 := by omega
    refine l_ireturn rfl rfl ?_
    exact ⟨rfl, _, rfl, ⟨by omega, by omega⟩, (by first | assumption | omega), (by first | (have t := K12; exact Or.inl ⟨t12, rfl⟩) | exact Or.inr ⟨n51.o, v2, by omega, O51.o, by omega, fun q => by omega, fun q => by omega⟩)⟩
def md_mo_failed__b : List rec := [(904, 905, 62, 63), (904, 905, 63, 64)]
abbrev Q_mo_failed__b (S : sS) (f : Int) (p : Int) : pst := fun r S1 => HI S1 ∧ FR md_mo_failed__b S S1 ∧ (r = none ∧ (Xi S1 904 62 = f) ∧ (Xi S1 904 63 = p))
set_option maxRecDepth 100000 in
theorem t_mo_failed__b {S : sS} (hH : HI S) (f : Int) (p : Int) (hf : 0 ≤ f ∧ f ≤ 9) (hp : 0 ≤ p ∧ p ≤ 5000) (d : Nat) : Mt lay0 (d + 1) m_mo_failed [.ref 904, iv f, iv p] S (Q_mo_failed__b S f p) := by
  refine Mt_R rfl rfl ?_
  have hF : FR md_mo_failed__b S S := FR.rf
  refine l_aload_n rfl rfl ?_
  refine l_iload_n rfl rfl ?_
  refine l_pfi rfl rfl rfl rfl ?_
  obtain ⟨U1, eU1⟩ : ∃ T : sS, T = uI S 904 62 (Int32.ofInt f) := ⟨_, rfl⟩
  rw [← eU1]
  have hHU1 : HI U1 := by rw [eU1]; exact HI_w hH (show 0 ≤ f by omega) (show f ≤ 9 by omega)
  have hFU1 : FR md_mo_failed__b S U1 := by rw [eU1]; exact FR.wI hF (mdf_i (r := (904, 905, 62, 63)) (List.mem_of_getElem? (i := 0) rfl) (inR_i (by omega) (by omega) (by omega) (by omega)))
  have w1 : Xi U1 904 62 = f := by rw [eU1]; exact Xi_same (by unfold rg; omega)
  refine l_aload_n rfl rfl ?_
  refine l_iload_n rfl rfl ?_
  refine l_pfi rfl rfl rfl rfl ?_
  obtain ⟨U2, eU2⟩ : ∃ T : sS, T = uI U1 904 63 (Int32.ofInt p) := ⟨_, rfl⟩
  rw [← eU2]
  have hHU2 : HI U2 := by rw [eU2]; exact HI_w hHU1 (show 0 ≤ p by omega) (show p ≤ 5000 by omega)
  have hFU2 : FR md_mo_failed__b S U2 := by rw [eU2]; exact FR.wI hFU1 (mdf_i (r := (904, 905, 63, 64)) (List.mem_of_getElem? (i := 1) rfl) (inR_i (by omega) (by omega) (by omega) (by omega)))
  have w2 : Xi U2 904 63 = p := by rw [eU2]; exact Xi_same (by unfold rg; omega)
  refine l_return rfl rfl ?_
  have w3 : Xi U2 904 62 = Xi U1 904 62 := (show Xi U2 904 62 = Xi U1 904 62 from by rw [eU2]; exact Xi_ne (by omega))
  have w4 : 0 ≤ Xi U1 904 62 ∧ Xi U1 904 62 ≤ 9 := hHU1.c _ _
  have w5 : 0 ≤ Xi U2 904 63 ∧ Xi U2 904 63 ≤ 5000 := hHU2.c _ _
  exact ⟨hHU2, hFU2, rfl, (by first | assumption | omega), (by omega)⟩
/-! the reference: total rows that also say what the partial rows do -/
theorem Mt_ai {α : Type} {lay : Nat → Nat × Nat} {d : Nat} {q : mT} {av : List Value} {S : sS} {Q : pst} {P : α → Prop} {Q1 : α → pst} (h : Mt lay d q av S Q) (hp : ∀ x, P x → Mp lay d q av S (Q1 x)) : Mt lay d q av S (fun r S1 => Q r S1 ∧ ∀ x, P x → Q1 x r S1) := Mt_p h (fun G r S1 e x p => hp x p G r S1 e)
def SPO (S S1 : sS) (fs ns : Nat) : Prop := (tR S fs ns 0 ≠ 102 → gSq (gSe (tR S fs ns)) (gT (tR S fs ns) 103) = cu S1 fs) ∧ (tR S fs ns 0 = 102 → Xi S1 904 65 = 0 ∧ Xi S1 904 70 = 0 ∧ Xi S1 904 81 = fs ∧ (tR S fs ns 1 = 103 → Xi S1 904 8 = fs + 2) ∧ (tR S fs ns 1 ≠ 103 → Xi S1 904 8 = fs + 1)) ∧ (tR S fs ns 0 ≠ 102 → SOR S1 (tR S fs ns)) ∧ (tR S fs ns 0 ≠ 102 → Xi S1 904 65 = 0 → Xi S1 904 70 ≠ 20 → Xi S1 904 93 = 0 → KRS S1 fs ns) ∧ (tR S fs ns 0 ≠ 102 → Xi S1 904 65 = 0 → CMN (tR S fs ns) → CMR S1 (tR S fs ns) fs) ∧ (tR S fs ns 0 = 33 → Xi S1 904 65 = 0 → Xi S1 904 81 = fs + 1) ∧ (tR S fs ns 0 ≠ 102 → Xi S1 904 65 = 0 → CMN (tR S fs ns) → kt7 (tR S fs ns) = 21 → ONR S1 (tR S fs ns)) ∧ (tR S fs ns 0 ≠ 102 → tR S fs ns 0 ≠ 35 → tR S fs ns 0 ≠ 38 → tR S fs ns 0 ≠ 39 → tR S fs ns 0 ≠ 40 → tR S fs ns 0 ≠ 41 → Xi S1 904 93 = 0) ∧ (tR S fs ns 0 ≠ 102 → Xi S1 904 65 = 0 → Xi S1 904 70 ≠ 20 → Xi S1 904 93 = 0 → kr7 (tR S fs ns) (Xi S1 904 69).toNat = nf7 (tR S fs ns) (Xi S1 904 8 - 1 - fs))
def md_mo_sentence__b : List rec := [(904, 905, 8, 9), (904, 905, 65, 66), (904, 905, 66, 67), (904, 905, 69, 70), (904, 905, 70, 71), (904, 905, 71, 72), (904, 905, 72, 73), (904, 905, 73, 74), (904, 905, 74, 75), (904, 905, 75, 76), (904, 905, 76, 77), (904, 905, 77, 78), (904, 905, 78, 79), (904, 905, 79, 80), (904, 905, 80, 81), (904, 905, 81, 82), (904, 905, 93, 94), (904, 905, 94, 95), (904, 905, 98, 99), (904, 905, 99, 100), (904, 905, 100, 101), (904, 905, 101, 102), (904, 905, 102, 103), (904, 905, 103, 104), (950, 951, 0, 100000), (951, 952, 0, 100000), (952, 953, 0, 100000), (953, 954, 0, 100000), (954, 955, 0, 100000), (955, 956, 0, 100000), (956, 957, 0, 100000), (957, 958, 0, 100000), (958, 959, 0, 100000), (959, 960, 0, 100000), (960, 961, 0, 100000), (961, 962, 0, 100000), (962, 963, 0, 100000), (963, 964, 0, 100000), (964, 965, 0, 100000), (965, 966, 0, 100000)]
abbrev Q_mo_sentence__b (S : sS) (n : Nat) : pst := fun r S1 => HI S1 ∧ FR md_mo_sentence__b S S1 ∧ (r = none ∧ (Xi S 904 8 ≤ Xi S1 904 8) ∧ (Xi S1 904 65 = 0 → Xi S 904 8 < Xi S1 904 8 ∧ Xi S1 904 8 ≤ n) ∧ (RNV S1 n) ∧ (Xi S1 904 65 = 0 → SNQ S1 n) ∧ (Xi S1 904 65 = 0 → Xi S1 904 70 ≤ 6 → 2 ≤ Xi S1 904 70 → TVA S1 n (Xi S1 904 94)) ∧ (Xi S1 904 65 = 0 → Xi S1 904 70 ≤ 6 → 3 ≤ Xi S1 904 70 → PVA S1 n (Xi S1 904 98)) ∧ (Xi S1 904 65 = 0 → Xi S1 904 70 ≤ 6 → 3 ≤ Xi S1 904 70 → Xi S1 904 94 + Xi S1 904 98 ≤ 1666) ∧ (Xi S1 904 65 = 0 → Xi S1 904 94 ≤ 1668) ∧ (Xi S1 904 65 = 0 → Xi S1 904 70 ≠ 0 → Xi S 907 (Xi S1 904 8 - 1).toNat = 46) ∧ (Xi S1 904 65 = 0 → Xi S1 904 70 = 11 → -1 ≤ Xi S1 904 78) ∧ (Xi S1 904 65 = 0 → Xi S1 904 70 = 2 → 1 ≤ Xi S1 904 94) ∧ (PF S1) ∧ (BDA S1) ∧ (∀ m : Nat, VLR S (Xi S 904 8).toNat m → SPO S S1 (Xi S 904 8).toNat m) ∧ (tkR S (Xi S 904 8) = 135 → (Xi S1 904 65 = 0 → ∃ e : Int, DFE (tkR S) S1 0 0 (Xi S 904 8) e ∧ tkR S e = 46 ∧ Xi S1 904 8 = e + 1)) ∧ (138 ≤ tkR S (Xi S 904 8) ∧ tkR S (Xi S 904 8) ≤ 141 → (Xi S1 904 65 = 0 → ∃ e : Int, RUE (tkR S) S1 0 0 0 (sKR (tkR S (Xi S 904 8))) (Xi S 904 8) e ∧ tkR S e = 46 ∧ Xi S1 904 8 = e + 1)))
theorem t_mo_sentence__b {S : sS} (hH : HI S) (n : Nat) (hT : TK S n) (hx : Xi S 904 8 ≤ n) (hk : Xi S 907 (Xi S 904 8).toNat ≠ 1) (hPF : PF S) (hBDA : BDA S) (d : Nat) : Mt lay0 (d + 10) m_mo_sentence [.ref 904] S (Q_mo_sentence__b S n) := by
  have h8 : 0 ≤ Xi S 904 8 ∧ Xi S 904 8 ≤ 5001 := by have a : 0 ≤ Xi S 904 8 := (hH.c 904 8).1; have b := hT.1; omega
  refine Mt_m (Mt_i (P := 138 ≤ tkR S (Xi S 904 8) ∧ tkR S (Xi S 904 8) ≤ 141) (Mt_i (P := tkR S (Xi S 904 8) = 135) (Mt_ai (P := fun m : Nat => VLR S (Xi S 904 8).toNat m) (t_mo_sentence__3 hH n hT hx hk hPF hBDA d) (fun m hp => t_mo_sentence__p hH.1 (Xi S 904 8).toNat m hp (by omega) d)) (fun hp => t_mo_sentence__t2 hH.1 h8 hp d)) (fun hp => t_mo_sentence__t3 hH.1 h8 hp d)) (fun r S1 h => ?_)
  obtain ⟨⟨⟨⟨h1, h2, e, p0, p1, p2, p3, p4, p5, p6, p7, p8, p9, p10, p11, p12⟩, g0⟩, g1⟩, g2⟩ := h
  refine ⟨h1, h2, e, p0, p1, p2, p3, p4, p5, p6, p7, p8, p9, p10, p11, p12, fun m hp => ?_, fun hp => ?_, fun hp => ?_⟩
  · obtain ⟨_, _, _, q⟩ := g0 m hp
    exact q
  · exact (g1 hp).2.2.2
  · exact (g2 hp).2.2.2
def md_mo_asked__b : List rec := [(904, 905, 64, 65), (904, 905, 104, 105), (904, 905, 105, 106), (904, 905, 106, 107), (904, 905, 108, 109), (904, 905, 109, 110), (904, 905, 110, 111), (904, 905, 112, 113), (904, 905, 113, 114), (904, 905, 115, 116), (904, 905, 116, 117), (904, 905, 117, 118), (904, 905, 125, 126), (904, 905, 128, 129), (904, 905, 129, 130), (904, 905, 130, 131), (904, 905, 142, 143), (904, 905, 144, 145), (904, 905, 146, 147), (904, 905, 147, 148), (904, 905, 150, 151), (904, 905, 151, 152), (904, 905, 153, 154), (904, 905, 154, 155), (904, 905, 156, 157), (904, 905, 157, 158), (904, 905, 158, 159), (904, 905, 160, 161), (966, 967, 0, 100000), (967, 968, 0, 100000), (968, 969, 0, 100000), (969, 970, 0, 100000), (970, 971, 0, 100000), (971, 972, 0, 100000), (972, 973, 0, 100000), (973, 974, 0, 100000), (974, 975, 0, 100000), (975, 976, 0, 100000), (976, 977, 0, 100000), (977, 978, 0, 100000), (978, 979, 0, 100000), (979, 980, 0, 100000), (980, 981, 0, 100000), (981, 982, 0, 100000), (982, 983, 0, 100000), (983, 984, 0, 100000), (984, 985, 0, 100000), (985, 986, 0, 100000), (986, 987, 0, 100000), (987, 988, 0, 100000), (988, 989, 0, 100000), (989, 990, 0, 100000), (990, 991, 0, 100000), (991, 992, 0, 100000), (992, 993, 0, 100000), (993, 994, 0, 100000), (994, 995, 0, 100000)]
abbrev Q_mo_asked__b (S : sS) (n : Nat) (dd : Nat) (first : Int) : pst := fun r S1 => HI S1 ∧ FR md_mo_asked__b S S1 ∧ (r = none ∧ (Xi S1 904 106 = 0 → DOK S1) ∧ (Xi S1 904 106 = 0 → RDT S1) ∧ (∀ d2 : Nat, AKP S d2 first → AKQ S S1 d2 first))
theorem t_mo_asked__b {S : sS} (hH : HI S) (n : Nat) (dd : Nat) (first : Int) (hfirst : 0 ≤ first ∧ first ≤ 5001) (hT : TK S n) (hv : RNV S n) (hM : LXM S) (hB : ABV S) (hC : DCM S) (hK : TXK S n) (hX : TXM S) (hq : SNQ S n) (hap : AP9 S n) (h94 : Xi S 904 94 ≤ 1668) (hRD : RDT S) (hPF : PF S) (hdt : Xi S 904 70 = 20 → first ≤ dd ∧ dd < n ∧ Xi S 907 dd = 46) (d : Nat) : Mt lay0 (d + 13) m_mo_asked [.ref 904, iv first] S (Q_mo_asked__b S n dd first) := by
  refine Mt_m (Mt_ai (P := fun d2 : Nat => AKP S d2 first) (t_mo_asked hH n dd first hfirst hT hv hM hB hC hK hX hq hap h94 hRD hPF hdt d) (fun d2 hp => t_mo_asked__a hH.1 d2 first hfirst hp d)) (fun r S1 h => ?_)
  obtain ⟨⟨h1, h2, e, p0, p1⟩, g0⟩ := h
  exact ⟨h1, h2, e, p0, p1, fun d2 hp => (g0 d2 hp).2.2.2⟩
def md_mo_does__b : List rec := [(904, 905, 15, 16), (904, 905, 16, 17), (904, 905, 18, 19), (904, 905, 19, 20), (904, 905, 23, 24), (904, 905, 30, 31), (904, 905, 32, 33), (904, 905, 41, 42), (904, 905, 47, 48), (904, 905, 49, 50), (904, 905, 51, 52), (904, 905, 55, 56), (904, 905, 60, 61), (904, 905, 64, 65), (904, 905, 73, 74), (904, 905, 105, 106), (904, 905, 106, 107), (904, 905, 113, 114), (904, 905, 117, 118), (912, 913, 0, 100000), (913, 914, 0, 100000), (914, 915, 0, 100000), (915, 916, 0, 100000), (916, 917, 0, 100000), (917, 918, 0, 100000), (918, 919, 0, 100000), (919, 920, 0, 100000), (920, 921, 0, 100000), (921, 922, 0, 100000), (922, 923, 0, 100000), (923, 924, 0, 100000), (924, 925, 0, 100000), (925, 926, 0, 100000), (926, 927, 0, 100000), (927, 928, 0, 100000), (928, 929, 0, 100000), (929, 930, 0, 100000), (930, 931, 0, 100000), (931, 932, 0, 100000), (932, 933, 0, 100000), (933, 934, 0, 100000), (934, 935, 0, 100000), (935, 936, 0, 100000), (936, 937, 0, 100000), (937, 938, 0, 100000), (938, 939, 0, 100000), (939, 940, 0, 100000), (940, 941, 0, 100000), (941, 942, 0, 100000), (942, 943, 0, 100000), (943, 944, 0, 100000), (944, 945, 0, 100000), (945, 946, 0, 100000), (946, 947, 0, 100000), (947, 948, 0, 100000), (948, 949, 0, 100000), (949, 950, 0, 100000)]
abbrev Q_mo_does__b (S : sS) (n : Nat) (first : Int) : pst := fun r S1 => HI S1 ∧ FR md_mo_does__b S S1 ∧ (r = none ∧ (TIX S1) ∧ (GR S1 S) ∧ (DKP S first → DKQ S S1 first))
theorem t_mo_does__b {S : sS} (hH : HI S) (n : Nat) (first : Int) (hfirst : 0 ≤ first ∧ first ≤ 5001) (hT : TK S n) (hv : RNV S n) (hK : TXK S n) (hI : TIX S) (hq : SNQ S n) (hk : DOK S) (h11 : Xi S 904 70 = 11 → -1 ≤ Xi S 904 78) (d : Nat) : Mt lay0 (d + 8) m_mo_does [.ref 904, iv first] S (Q_mo_does__b S n first) := by
  refine Mt_m (Mt_i (P := DKP S first) (t_mo_does__g hH n first hfirst hT hv hK hI hq hk h11 d) (fun hp => t_mo_does__a hH.1 first hfirst hp d)) (fun r S1 h => ?_)
  obtain ⟨⟨h1, h2, e, p0, p1⟩, g0⟩ := h
  exact ⟨h1, h2, e, p0, p1, fun hp => (g0 hp).2.2.2⟩

/-! the reference: readStory, and its way -/
def rs0 (S : sS) : sS := uI (uI (uI S 904 62 (Int32.ofInt 0)) 904 61 (Int32.ofInt 0)) 904 8 (Int32.ofInt 0)
def FLD (V S1 : sS) (c p : Int) : Prop := FR md_mo_failed__b V S1 ∧ HI S1 ∧ Xi S1 904 62 = c ∧ Xi S1 904 63 = p
def RP7 (n : Nat) (X : sS) : Prop := HI X ∧ TK X n ∧ TXK X n ∧ TIX X ∧ PF X ∧ BDA X ∧ 0 ≤ Xi X 904 8 ∧ Xi X 904 8 ≤ n ∧ Xi X 907 (Xi X 904 8).toNat ≠ 1 ∧ Xi X 904 62 = 0
def SNB (n : Nat) (X V : sS) : Prop := HI V ∧ FR md_mo_sentence__b X V ∧ (Xi X 904 8 ≤ Xi V 904 8) ∧ (Xi V 904 65 = 0 → Xi X 904 8 < Xi V 904 8 ∧ Xi V 904 8 ≤ n) ∧ RNV V n ∧ (Xi V 904 65 = 0 → SNQ V n) ∧ (Xi V 904 65 = 0 → AP9 V n) ∧ (Xi V 904 65 = 0 → Xi V 904 94 ≤ 1668) ∧ (Xi V 904 65 = 0 → Xi V 904 70 ≠ 0 → Xi X 907 (Xi V 904 8 - 1).toNat = 46) ∧ (∀ m : Nat, VLR X (Xi X 904 8).toNat m → SPO X V (Xi X 904 8).toNat m) ∧ (tkR X (Xi X 904 8) = 135 → (Xi V 904 65 = 0 → ∃ e : Int, DFE (tkR X) V 0 0 (Xi X 904 8) e ∧ tkR X e = 46 ∧ Xi V 904 8 = e + 1)) ∧ (138 ≤ tkR X (Xi X 904 8) ∧ tkR X (Xi X 904 8) ≤ 141 → (Xi V 904 65 = 0 → ∃ e : Int, RUE (tkR X) V 0 0 0 (sKR (tkR X (Xi X 904 8))) (Xi X 904 8) e ∧ tkR X e = 46 ∧ Xi V 904 8 = e + 1))
def ASB (n : Nat) (V T : sS) (f : Int) : Prop := HI T ∧ FR md_mo_asked__b V T ∧ (Xi T 904 106 = 0 → DOK T) ∧ (Xi T 904 106 = 0 → RDT T) ∧ ∀ d2 : Nat, AKP V d2 f → AKQ V T d2 f
def DSB (n : Nat) (T W : sS) (f : Int) : Prop := HI W ∧ FR md_mo_does__b T W ∧ TIX W ∧ GR W T ∧ (DKP T f → DKQ T W f)
/-- one sentence -/
def RSS (n : Nat) (X S1 : sS) : Prop := RP7 n X ∧ ∃ (od : Int) (V : sS), ODD7 X (Xi X 904 8) od ∧ SNB n X V ∧ ((od ≠ -1 ∧ FLD V S1 1 (Xi V 908 od.toNat)) ∨ (od = -1 ∧ Xi V 904 65 ≠ 0 ∧ FLD V S1 2 (Xi V 908 (Xi V 904 66).toNat)) ∨ (od = -1 ∧ Xi V 904 65 = 0 ∧ ∃ T W Y : sS, ASB n V T (Xi X 904 8) ∧ (Xi T 904 106 ≠ 0 → W = T) ∧ (Xi T 904 106 = 0 → DSB n T W (Xi X 904 8)) ∧ (Xi W 904 106 ≠ 0 → FLD W Y (Xi W 904 106) (Xi W 904 105)) ∧ (Xi W 904 106 = 0 → Y = W) ∧ S1 = uI (uI Y 904 8 (Int32.ofInt (Xi V 904 8))) 904 61 (Int32.ofInt (Xi Y 904 61 + 1))))
def RC7 (n : Nat) (R0 : sS) : Nat → sS → Prop
  | 0, X => X = R0
  | k + 1, X => ∃ Y : sS, RC7 n R0 k Y ∧ RSS n Y X
def RY7 (n : Nat) (S X : sS) : Prop := (Xi S 907 0 ≠ 1 ∧ ∃ k : Nat, RC7 n (rs0 S) k X) ∨ (Xi S 907 0 = 1 ∧ FLD (rs0 S) X 2 (Xi S 908 0))
theorem rty_s {n : Nat} {S X S1 : sS} (h : ∃ k : Nat, RC7 n (rs0 S) k X) (r : RSS n X S1) : RY7 n S S1 := by
  obtain ⟨k, hk⟩ := h
  have e : Xi S 907 0 ≠ 1 := by
    cases k with
    | zero =>
      have hX : X = rs0 S := hk
      have q := r.1.2.2.2.2.2.2.2.2.1
      rw [hX] at q
      have z : Xi (rs0 S) 904 8 = 0 := Xi_same ⟨by decide, by decide⟩
      rw [z] at q
      exact q
    | succ k =>
      have hrec : ∀ (j : Nat) (Y : sS), RC7 n (rs0 S) (j + 1) Y → Xi S 907 0 ≠ 1 := by
        intro j
        induction j with
        | zero =>
          intro Y hY
          obtain ⟨Z, hZ, rs⟩ := hY
          have hZ : Z = rs0 S := hZ
          have q := rs.1.2.2.2.2.2.2.2.2.1
          rw [hZ] at q
          have z : Xi (rs0 S) 904 8 = 0 := Xi_same ⟨by decide, by decide⟩
          rw [z] at q
          exact q
        | succ j ih =>
          intro Y hY
          obtain ⟨Z, hZ, _⟩ := hY
          exact ih Z hZ
      exact hrec k X hk
  exact Or.inl ⟨e, k + 1, X, hk, r⟩
theorem rty_0 {n : Nat} {S X : sS} (h : Xi S 907 0 ≠ 1) (e : X = rs0 S) : RY7 n S X := Or.inl ⟨h, 0, e⟩
theorem rty_1 {n : Nat} {S X Y : sS} (h : Xi S 907 0 = 1) (e : Y = rs0 S) (f : FLD Y X 2 (Xi Y 908 0)) : RY7 n S X := by
  rw [e] at f
  exact Or.inr ⟨h, f⟩
theorem rty_k {n : Nat} {S X : sS} (h : RY7 n S X) (f : Xi X 904 62 = 0) : ∃ k : Nat, RC7 n (rs0 S) k X := by
  rcases h with h | ⟨_, h⟩
  · exact h.2
  · have := h.2.2.1; omega
theorem rss_1 {n : Nat} {X V S1 : sS} {f od : Int} (r : RP7 n X) (hf : Xi X 904 8 = f) (o : ODD7 X f od) (h : od ≠ -1) (s : SNB n X V) (g : FLD V S1 1 (Xi V 908 od.toNat)) : RSS n X S1 := ⟨r, od, V, by rw [hf]; exact o, s, Or.inl ⟨h, g⟩⟩
theorem rss_2 {n : Nat} {X V S1 : sS} {f : Int} (r : RP7 n X) (hf : Xi X 904 8 = f) (o : ODD7 X f (-1)) (s : SNB n X V) (h : Xi V 904 65 ≠ 0) (g : FLD V S1 2 (Xi V 908 (Xi V 904 66).toNat)) : RSS n X S1 := ⟨r, -1, V, by rw [hf]; exact o, s, Or.inr (Or.inl ⟨rfl, h, g⟩)⟩
theorem rss_3 {n : Nat} {S V T W Y Z S1 : sS} {v1 v3 : Int} (h : ∃ (X : sS) (k : Nat), RC7 n (rs0 S) k X ∧ RP7 n X ∧ Xi X 904 8 = v1 ∧ ODD7 X v1 (-1) ∧ SNB n X V) (b : Xi V 904 65 = 0) (a : ASB n V T v1) (w0 : Xi T 904 106 ≠ 0 → W = T) (w1 : Xi T 904 106 = 0 → DSB n T W v1) (y1 : Xi W 904 106 ≠ 0 → FLD W Y (Xi W 904 106) (Xi W 904 105)) (y0 : Xi W 904 106 = 0 → Y = W) (e3 : Xi V 904 8 = v3) (z1 : Z = uI Y 904 8 (Int32.ofInt v3)) (z2 : S1 = uI Z 904 61 (Int32.ofInt (Xi Z 904 61 + 1))) : RY7 n S S1 := by
  obtain ⟨X, k, hk, r, hv, o, s⟩ := h
  refine rty_s ⟨k, hk⟩ ⟨r, -1, V, by rw [hv]; exact o, s, Or.inr (Or.inr ⟨rfl, b, T, W, Y, by rw [hv]; exact a, w0, by rw [hv]; exact w1, y1, y0, ?_⟩)⟩
  rw [z2, z1, e3, Xi_ne (by omega)]
def md_mo_readStory__t : List rec := [(904, 905, 8, 9), (904, 905, 15, 16), (904, 905, 16, 17), (904, 905, 18, 19), (904, 905, 19, 20), (904, 905, 23, 24), (904, 905, 30, 31), (904, 905, 32, 33), (904, 905, 41, 42), (904, 905, 47, 48), (904, 905, 49, 50), (904, 905, 51, 52), (904, 905, 55, 56), (904, 905, 60, 61), (904, 905, 61, 62), (904, 905, 62, 63), (904, 905, 63, 64), (904, 905, 64, 65), (904, 905, 65, 66), (904, 905, 66, 67), (904, 905, 69, 70), (904, 905, 70, 71), (904, 905, 71, 72), (904, 905, 72, 73), (904, 905, 73, 74), (904, 905, 74, 75), (904, 905, 75, 76), (904, 905, 76, 77), (904, 905, 77, 78), (904, 905, 78, 79), (904, 905, 79, 80), (904, 905, 80, 81), (904, 905, 81, 82), (904, 905, 93, 94), (904, 905, 94, 95), (904, 905, 98, 99), (904, 905, 99, 100), (904, 905, 100, 101), (904, 905, 101, 102), (904, 905, 102, 103), (904, 905, 103, 104), (904, 905, 104, 105), (904, 905, 105, 106), (904, 905, 106, 107), (904, 905, 108, 109), (904, 905, 109, 110), (904, 905, 110, 111), (904, 905, 112, 113), (904, 905, 113, 114), (904, 905, 115, 116), (904, 905, 116, 117), (904, 905, 117, 118), (904, 905, 125, 126), (904, 905, 128, 129), (904, 905, 129, 130), (904, 905, 130, 131), (904, 905, 142, 143), (904, 905, 144, 145), (904, 905, 146, 147), (904, 905, 147, 148), (904, 905, 150, 151), (904, 905, 151, 152), (904, 905, 153, 154), (904, 905, 154, 155), (904, 905, 156, 157), (904, 905, 157, 158), (904, 905, 158, 159), (904, 905, 160, 161), (912, 913, 0, 100000), (913, 914, 0, 100000), (914, 915, 0, 100000), (915, 916, 0, 100000), (916, 917, 0, 100000), (917, 918, 0, 100000), (918, 919, 0, 100000), (919, 920, 0, 100000), (920, 921, 0, 100000), (921, 922, 0, 100000), (922, 923, 0, 100000), (923, 924, 0, 100000), (924, 925, 0, 100000), (925, 926, 0, 100000), (926, 927, 0, 100000), (927, 928, 0, 100000), (928, 929, 0, 100000), (929, 930, 0, 100000), (930, 931, 0, 100000), (931, 932, 0, 100000), (932, 933, 0, 100000), (933, 934, 0, 100000), (934, 935, 0, 100000), (935, 936, 0, 100000), (936, 937, 0, 100000), (937, 938, 0, 100000), (938, 939, 0, 100000), (939, 940, 0, 100000), (940, 941, 0, 100000), (941, 942, 0, 100000), (942, 943, 0, 100000), (943, 944, 0, 100000), (944, 945, 0, 100000), (945, 946, 0, 100000), (946, 947, 0, 100000), (947, 948, 0, 100000), (948, 949, 0, 100000), (949, 950, 0, 100000), (950, 951, 0, 100000), (951, 952, 0, 100000), (952, 953, 0, 100000), (953, 954, 0, 100000), (954, 955, 0, 100000), (955, 956, 0, 100000), (956, 957, 0, 100000), (957, 958, 0, 100000), (958, 959, 0, 100000), (959, 960, 0, 100000), (960, 961, 0, 100000), (961, 962, 0, 100000), (962, 963, 0, 100000), (963, 964, 0, 100000), (964, 965, 0, 100000), (965, 966, 0, 100000), (966, 967, 0, 100000), (967, 968, 0, 100000), (968, 969, 0, 100000), (969, 970, 0, 100000), (970, 971, 0, 100000), (971, 972, 0, 100000), (972, 973, 0, 100000), (973, 974, 0, 100000), (974, 975, 0, 100000), (975, 976, 0, 100000), (976, 977, 0, 100000), (977, 978, 0, 100000), (978, 979, 0, 100000), (979, 980, 0, 100000), (980, 981, 0, 100000), (981, 982, 0, 100000), (982, 983, 0, 100000), (983, 984, 0, 100000), (984, 985, 0, 100000), (985, 986, 0, 100000), (986, 987, 0, 100000), (987, 988, 0, 100000), (988, 989, 0, 100000), (989, 990, 0, 100000), (990, 991, 0, 100000), (991, 992, 0, 100000), (992, 993, 0, 100000), (993, 994, 0, 100000), (994, 995, 0, 100000)]
abbrev Q_mo_readStory__t (S : sS) (n : Nat) : pst := fun r S1 => HI S1 ∧ FR md_mo_readStory__t S S1 ∧ (r = none ∧ (Xi S1 904 62 = 0 → TIX S1) ∧ (ABV S1) ∧ (WYM S1) ∧ (PF S1) ∧ (BDA S1) ∧ (RY7 n S S1 ∧ ¬ (Xi S1 904 62 = 0 ∧ Xi S1 907 (Xi S1 904 8).toNat ≠ 1)))
set_option maxRecDepth 100000 in
set_option maxHeartbeats 8000000 in
theorem c36_mo_readStory__t {S : sS} (hH : HI S) (n : Nat) (hT : TK S n) (hK : TXK S n) (hI : TIX S) (hPF : PF S) (hBDA : BDA S) (d : Nat) : ∀ (n36 : Nat) (T1 : sS) (_ : HI T1) (_ : FR md_mo_readStory__t S T1), (Xi T1 904 62 = 0 → TIX T1) → (ABV T1) → (WYM T1) → (Xi T1 904 62 = 0 → Xi T1 904 8 ≤ n) → (Xi T1 904 61 ≤ Xi T1 904 8) → (PF T1) → (BDA T1) → (Hid (RY7 n S T1)) → n36 = (20000 - Xi T1 904 8 - 9000 * Xi T1 904 62).toNat → Rl lay0 (d + 13) m_mo_readStory 36 [(0, .ref 904)] [] T1 (Q_mo_readStory__t S n) := by
  have hF : FR md_mo_readStory__t S S := FR.rf
  have w1 : 0 ≤ Xi S 904 16 ∧ Xi S 904 16 ≤ 16 := hH.c _ _
  have w2 : 0 ≤ Xi S 904 19 ∧ Xi S 904 19 ≤ 24 := hH.c _ _
  have w3 : -1 ≤ Xi S 904 60 ∧ Xi S 904 60 ≤ 23 := hH.c _ _
  have w4 : 0 ≤ Xi S 904 61 ∧ Xi S 904 61 ≤ 5001 := hH.c _ _
  have w5 : 0 ≤ Xi S 904 62 ∧ Xi S 904 62 ≤ 9 := hH.c _ _
  have w6 : 0 ≤ Xi S 904 65 ∧ Xi S 904 65 ≤ 1 := hH.c _ _
  have w7 : 0 ≤ Xi S 904 70 ∧ Xi S 904 70 ≤ 20 := hH.c _ _
  have w8 : 0 ≤ Xi S 904 8 ∧ Xi S 904 8 ≤ 5010 := hH.c _ _
  have w9 : 0 ≤ Xi S 904 94 ∧ Xi S 904 94 ≤ 1700 := hH.c _ _
  have hn5 := hT.1
  have h_TXM : TXM S := hI.1
  have h_WYM : WYM S := hI.2.1
  have h_LXM : LXM S := hI.2.2.1
  have h_LCN : LCN S := hI.2.2.2.1
  have h_ABV : ABV S := hI.2.2.2.2.1
  have h_DCM : DCM S := hI.2.2.2.2.2.1
  have h_VTM : VTM S := hI.2.2.2.2.2.2.1
  have h_VCN : VCN S := hI.2.2.2.2.2.2.2.1
  have h_WYD : WYD S := hI.2.2.2.2.2.2.2.2.1
  have h_RDT : RDT S := hI.2.2.2.2.2.2.2.2.2.1
  have h_AKR : AKR S := hI.2.2.2.2.2.2.2.2.2.2.1
  have hi12 : Xi S 904 60 < Xi S 904 19 := hI.2.2.2.2.2.2.2.2.2.2.2.1
  have hi13 : 2 ≤ Xi S 904 16 := hI.2.2.2.2.2.2.2.2.2.2.2.2
  intro n36
  induction n36 using Nat.strongRecOn with
  | ind n36 ih36 =>
    intro T1 hHT1 hFT1 A36 B36 W36 w10 w11 PF36 BD36 tr36 hm36
    have w12 : 0 ≤ Xi T1 904 61 ∧ Xi T1 904 61 ≤ 5001 := hHT1.c _ _
    have w13 : 0 ≤ Xi T1 904 62 ∧ Xi T1 904 62 ≤ 9 := hHT1.c _ _
    have w14 : 0 ≤ Xi T1 904 8 ∧ Xi T1 904 8 ≤ 5010 := hHT1.c _ _
    have C119 : ∀  (T2 : sS) (_ : HI T2) (_ : FR md_mo_readStory__t S T2) (v1 : Int) (v3 : Int), (0 ≤ v1 ∧ v1 ≤ 5001) → (0 ≤ v3 ∧ v3 ≤ 5010) → (TXM T2) → (WYM T2) → (LXM T2) → (LCN T2) → (ABV T2) → (DCM T2) → (VTM T2) → (VCN T2) → (WYD T2) → (RDT T2) → (AKR T2) → (Xi T2 904 60 < Xi T2 904 19) → (2 ≤ Xi T2 904 16) → (v1 < v3) → (v3 ≤ n) → (0 ≤ v1) → (Xi T2 904 8 = v3) → (Xi T2 904 65 = 0) → (Xi T2 904 62 = 0) → (Xi T2 904 61 ≤ v1) → (Xi T2 904 94 ≤ 1668) → (RNV T2 n) → (SNQ T2 n) → (AP9 T2 n) → (Xi T2 904 70 ≠ 0 → Xi S 907 (v3 - 1).toNat = 46) → (PF T2) → (BDA T2) → (Hid (∃ (X : sS) (k : Nat), RC7 n (rs0 S) k X ∧ RP7 n X ∧ Xi X 904 8 = v1 ∧ ODD7 X v1 (-1) ∧ SNB n X T2)) → ((20000 - v1).toNat ≤ n36) → Rl lay0 (d + 13) m_mo_readStory 119 [(0, .ref 904), (1, iv v1), (3, iv v3)] [] T2 (Q_mo_readStory__t S n) := by
      intro T2 hHT2 hFT2 v1 v3 w15 w16 TXM119 WYM119 LXM119 LCN119 ABV119 DCM119 VTM119 VCN119 WYD119 RDT119 AKR119 w17 w18 w19 w20 w21 w22 w23 w24 w25 w26 V119 q119 p119 t119 PF119 BD119 tr119 w27
      have w28 : 0 ≤ Xi T2 904 16 ∧ Xi T2 904 16 ≤ 16 := hHT2.c _ _
      have w29 : 0 ≤ Xi T2 904 19 ∧ Xi T2 904 19 ≤ 24 := hHT2.c _ _
      have w30 : -1 ≤ Xi T2 904 60 ∧ Xi T2 904 60 ≤ 23 := hHT2.c _ _
      have w31 : 0 ≤ Xi T2 904 61 ∧ Xi T2 904 61 ≤ 5001 := hHT2.c _ _
      have w32 : 0 ≤ Xi T2 904 62 ∧ Xi T2 904 62 ≤ 9 := hHT2.c _ _
      have w33 : 0 ≤ Xi T2 904 65 ∧ Xi T2 904 65 ≤ 1 := hHT2.c _ _
      have w34 : 0 ≤ Xi T2 904 70 ∧ Xi T2 904 70 ≤ 20 := hHT2.c _ _
      have w35 : 0 ≤ Xi T2 904 8 ∧ Xi T2 904 8 ≤ 5010 := hHT2.c _ _
      have w36 : 0 ≤ Xi T2 904 94 ∧ Xi T2 904 94 ≤ 1700 := hHT2.c _ _
      refine l_aload_n rfl rfl ?_
      refine l_iload_n rfl rfl ?_
      have w37 : 0 ≤ Xi T2 904 105 ∧ Xi T2 904 105 ≤ 5000 := hHT2.c _ _
      have w38 : 0 ≤ Xi T2 904 106 ∧ Xi T2 904 106 ≤ 9 := hHT2.c _ _
      have w45 : 0 ≤ Xi T2 904 66 ∧ Xi T2 904 66 ≤ 5010 := hHT2.c _ _
      refine l_callV rfl rfl rfl (t_mo_asked__b hHT2 n (v3 - 1).toNat v1 ⟨by omega, by omega⟩ (by first | assumption | exact (TK_FR hFT2 rfl (by assumption : TK S _))) (by first | assumption | exact (by assumption : RNV T2 _)) (by first | assumption | exact (by assumption : LXM T2)) (by first | assumption | exact (by assumption : ABV T2)) (by first | assumption | exact (by assumption : DCM T2)) (by first | assumption | exact (TXK_FR hFT2 rfl (by assumption : TXK S _))) (by first | assumption | exact (by assumption : TXM T2)) (by first | assumption | exact (by assumption : SNQ T2 _)) (p119) (by omega) (RDT119) (by first | assumption | exact (by assumption : PF T2)) (fun e => ⟨by omega, by have u := t119 (by omega); have w := tk_lt hT (a := v3 - 1) (by omega) (by omega) (by omega); omega, by rw [(hFT2.cx 907 rfl _).1]; exact t119 (by omega)⟩) _) ?_
      rintro _ T3 ⟨hHT3, w50, rfl, f121, g121, fn121⟩
      have hFT3 : FR md_mo_readStory__t S T3 := FR.tr hFT2 w50 rfl
      show Rl _ _ _ _ _ [] _ _
      have Q121 : SNQ T3 n := SNQ_FR (by assumption : FR md_mo_asked__b T2 T3) rfl q119
      have K121 : True := trivial
      have B121 : Hid (ASB n T2 T3 v1) := ⟨hHT3, (by assumption : FR md_mo_asked__b T2 T3), f121, g121, fn121⟩
      clear fn121
      have V121 : Xi T2 904 8 = v3 := by omega
      refine l_aload_n rfl rfl ?_
      refine l_gfi rfl rfl rfl rfl rfl ?_
      have w51 : 0 ≤ (Xi T3 904 106) ∧ (Xi T3 904 106) ≤ 9 := hHT3.c _ _
      refine l_if_ne rfl rfl (by unfold rg; omega) (fun w52 => ?_) (fun w53 => ?_)
      · refine l_aload_n rfl rfl ?_
        refine l_gfi rfl rfl rfl rfl rfl ?_
        refine l_if_eq rfl rfl (by unfold rg; omega) (fun w54 => ?_) (fun w55 => ?_)
        · refine l_aload_n rfl rfl ?_
          refine l_iload_n rfl rfl ?_
          refine l_pfi rfl rfl rfl rfl ?_
          obtain ⟨U4, eU4⟩ : ∃ T : sS, T = uI T3 904 8 (Int32.ofInt v3) := ⟨_, rfl⟩
          rw [← eU4]
          have hHU4 : HI U4 := by rw [eU4]; exact HI_w hHT3 (show 0 ≤ v3 by omega) (show v3 ≤ 5010 by omega)
          have hFU4 : FR md_mo_readStory__t S U4 := by rw [eU4]; exact FR.wI hFT3 (mdf_i (r := (904, 905, 8, 9)) (List.mem_of_getElem? (i := 0) rfl) (inR_i (by omega) (by omega) (by omega) (by omega)))
          have w56 : Xi U4 904 8 = v3 := by rw [eU4]; exact Xi_same (by unfold rg; omega)
          have e157 : U4 = uI T3 904 8 (Int32.ofInt v3) := eU4
          refine l_aload_n rfl rfl ?_
          refine l_dup rfl rfl ?_
          refine l_gfi rfl rfl rfl rfl rfl ?_
          have w57 : (Xi U4 904 61) = (Xi T2 904 61) := (show Xi U4 904 61 = Xi T3 904 61 from by rw [eU4]; exact Xi_ne (by omega)).trans ((show Xi T3 904 61 = Xi T2 904 61 from w50.x _ _ rfl))
          rw [w57]
          refine l_iconst rfl ?_
          refine l_iadd rfl ?_
          refine l_pfi rfl rfl rfl rfl ?_
          obtain ⟨U5, eU5⟩ : ∃ T : sS, T = uI U4 904 61 (Int32.ofInt ((Xi T2 904 61) + 1)) := ⟨_, rfl⟩
          rw [← eU5]
          have hHU5 : HI U5 := by rw [eU5]; exact HI_w hHU4 (show 0 ≤ ((Xi T2 904 61) + 1) by omega) (show ((Xi T2 904 61) + 1) ≤ 5001 by omega)
          have hFU5 : FR md_mo_readStory__t S U5 := by rw [eU5]; exact FR.wI hFU4 (mdf_i (r := (904, 905, 61, 62)) (List.mem_of_getElem? (i := 14) rfl) (inR_i (by omega) (by omega) (by omega) (by omega)))
          have w58 : Xi U5 904 61 = ((Xi T2 904 61) + 1) := by rw [eU5]; exact Xi_same (by unfold rg; omega)
          have e167 : U5 = uI U4 904 61 (Int32.ofInt (Xi U4 904 61 + 1)) := by have t := eU5; rw [t]; first | rfl | (congr 2; omega)
          have G167 : Hid (RY7 n S U5) := by first | (have t := K152; have u := K133; exact rss_3 tr119.o (by omega) B121.o (fun q => absurd q (by omega)) (fun _ => B133.o) (fun _ => L152.o) (fun q => absurd q (by omega)) V121 e157 e167) | (have t := K152; exact rss_3 tr119.o (by omega) B121.o (fun _ => rfl) (fun q => absurd q (by omega)) (fun _ => L152.o) (fun q => absurd q (by omega)) V121 e157 e167) | exact rss_3 tr119.o (by omega) B121.o (fun q => absurd q (by omega)) (fun _ => B133.o) (fun q => absurd q (by omega)) (fun _ => rfl) V121 e157 e167 | (exfalso; omega)
          refine l_goto rfl rfl ?_
          have w59 : Xi U5 904 105 = Xi T3 904 105 := (show Xi U5 904 105 = Xi U4 904 105 from by rw [eU5]; exact Xi_ne (by omega)).trans ((show Xi U4 904 105 = Xi T3 904 105 from by rw [eU4]; exact Xi_ne (by omega)))
          have w60 : 0 ≤ Xi T3 904 105 ∧ Xi T3 904 105 ≤ 5000 := hHT3.c _ _
          have w61 : Xi U5 904 106 = Xi T3 904 106 := (show Xi U5 904 106 = Xi U4 904 106 from by rw [eU5]; exact Xi_ne (by omega)).trans ((show Xi U4 904 106 = Xi T3 904 106 from by rw [eU4]; exact Xi_ne (by omega)))
          have w62 : 0 ≤ Xi T3 904 106 ∧ Xi T3 904 106 ≤ 9 := hHT3.c _ _
          have w63 : Xi U5 904 16 = Xi T2 904 16 := (show Xi U5 904 16 = Xi U4 904 16 from by rw [eU5]; exact Xi_ne (by omega)).trans ( (show Xi U4 904 16 = Xi T3 904 16 from by rw [eU4]; exact Xi_ne (by omega)).trans ((show Xi T3 904 16 = Xi T2 904 16 from w50.x _ _ rfl)))
          have w65 : Xi U5 904 19 = Xi T2 904 19 := (show Xi U5 904 19 = Xi U4 904 19 from by rw [eU5]; exact Xi_ne (by omega)).trans ( (show Xi U4 904 19 = Xi T3 904 19 from by rw [eU4]; exact Xi_ne (by omega)).trans ((show Xi T3 904 19 = Xi T2 904 19 from w50.x _ _ rfl)))
          have w67 : Xi U5 904 60 = Xi T2 904 60 := (show Xi U5 904 60 = Xi U4 904 60 from by rw [eU5]; exact Xi_ne (by omega)).trans ( (show Xi U4 904 60 = Xi T3 904 60 from by rw [eU4]; exact Xi_ne (by omega)).trans ((show Xi T3 904 60 = Xi T2 904 60 from w50.x _ _ rfl)))
          have w68 : -1 ≤ Xi T2 904 60 ∧ Xi T2 904 60 ≤ 23 := hHT2.c _ _
          have w69 : 0 ≤ Xi U5 904 61 ∧ Xi U5 904 61 ≤ 5001 := hHU5.c _ _
          have w70 : Xi U5 904 62 = Xi T2 904 62 := (show Xi U5 904 62 = Xi U4 904 62 from by rw [eU5]; exact Xi_ne (by omega)).trans ( (show Xi U4 904 62 = Xi T3 904 62 from by rw [eU4]; exact Xi_ne (by omega)).trans ((show Xi T3 904 62 = Xi T2 904 62 from w50.x _ _ rfl)))
          have w72 : Xi U5 904 65 = Xi T2 904 65 := (show Xi U5 904 65 = Xi U4 904 65 from by rw [eU5]; exact Xi_ne (by omega)).trans ( (show Xi U4 904 65 = Xi T3 904 65 from by rw [eU4]; exact Xi_ne (by omega)).trans ((show Xi T3 904 65 = Xi T2 904 65 from w50.x _ _ rfl)))
          have w74 : Xi U5 904 66 = Xi T2 904 66 := (show Xi U5 904 66 = Xi U4 904 66 from by rw [eU5]; exact Xi_ne (by omega)).trans ( (show Xi U4 904 66 = Xi T3 904 66 from by rw [eU4]; exact Xi_ne (by omega)).trans ((show Xi T3 904 66 = Xi T2 904 66 from w50.x _ _ rfl)))
          have w76 : Xi U5 904 70 = Xi T2 904 70 := (show Xi U5 904 70 = Xi U4 904 70 from by rw [eU5]; exact Xi_ne (by omega)).trans ( (show Xi U4 904 70 = Xi T3 904 70 from by rw [eU4]; exact Xi_ne (by omega)).trans ((show Xi T3 904 70 = Xi T2 904 70 from w50.x _ _ rfl)))
          have w78 : Xi U5 904 8 = Xi U4 904 8 := (show Xi U5 904 8 = Xi U4 904 8 from by rw [eU5]; exact Xi_ne (by omega))
          have w79 : 0 ≤ Xi U4 904 8 ∧ Xi U4 904 8 ≤ 5010 := hHU4.c _ _
          have w80 : Xi U5 904 94 = Xi T2 904 94 := (show Xi U5 904 94 = Xi U4 904 94 from by rw [eU5]; exact Xi_ne (by omega)).trans ( (show Xi U4 904 94 = Xi T3 904 94 from by rw [eU4]; exact Xi_ne (by omega)).trans ((show Xi T3 904 94 = Xi T2 904 94 from w50.x _ _ rfl)))
          exact Rl_weak (ih36 _ (by omega) U5 hHU5 hFU5  (by first | exact fun q => absurd q (by omega) | exact fun _ => ⟨by first | assumption | exact (TXM_FR (FR_e eU5) rfl (TXM_FR (FR_e eU4) rfl (TXM_FR w50 rfl (by assumption : TXM T2)))), by first | assumption | exact (WYM_FR (FR_e eU5) rfl (WYM_FR (FR_e eU4) rfl (WYM_FR w50 rfl (by assumption : WYM T2)))), by first | assumption | exact (LXM_FR (FR_e eU5) rfl (LXM_FR (FR_e eU4) rfl (LXM_FR w50 rfl (by assumption : LXM T2)))), by first | assumption | exact (LCN_FR (FR_e eU5) rfl (LCN_FR (FR_e eU4) rfl (LCN_FR w50 rfl (by assumption : LCN T2)))), by first | assumption | exact (ABV_FR (FR_e eU5) rfl (ABV_FR (FR_e eU4) rfl (ABV_FR w50 rfl (by assumption : ABV T2)))), by first | assumption | exact (DCM_FR (FR_e eU5) rfl (DCM_FR (FR_e eU4) rfl (DCM_FR w50 rfl (by assumption : DCM T2)))), by first | assumption | exact (VTM_FR (FR_e eU5) rfl (VTM_FR (FR_e eU4) rfl (VTM_FR w50 rfl (by assumption : VTM T2)))), by first | assumption | exact (VCN_FR (FR_e eU5) rfl (VCN_FR (FR_e eU4) rfl (VCN_FR w50 rfl (by assumption : VCN T2)))), by first | assumption | exact (WYD_FR (FR_e eU5) rfl (WYD_FR (FR_e eU4) rfl (WYD_FR w50 rfl (by assumption : WYD T2)))), by first | assumption | exact (RDT_FR hHU4 (FR_e eU5) rfl rfl rfl (RDT_FR hHT3 (FR_e eU4) rfl rfl rfl (by assumption : RDT T3))), by first | assumption | exact (AKR_FR (FR_e eU5) rfl (AKR_FR (FR_e eU4) rfl (AKR_FR w50 rfl (by assumption : AKR T2)))), by omega, by omega⟩ | exact fun _ => (by obtain ⟨a1, a2, a3, a4, a5, a6, a7, a8, a9, a10, a11, a12, a13⟩ := hI; exact ⟨TXM_FR hFU5 rfl a1, WYM_FR hFU5 rfl a2, LXM_FR hFU5 rfl a3, LCN_FR hFU5 rfl a4, ABV_FR hFU5 rfl a5, DCM_FR hFU5 rfl a6, VTM_FR hFU5 rfl a7, VCN_FR hFU5 rfl a8, WYD_FR hFU5 rfl a9, RDT_FR hH hFU5 rfl rfl rfl a10, AKR_FR hFU5 rfl a11, by omega, by omega⟩)) (by first | assumption | exact (ABV_FR (FR_e eU5) rfl (ABV_FR (FR_e eU4) rfl (ABV_FR w50 rfl (by assumption : ABV T2))))) (by first | assumption | exact (WYM_FR (FR_e eU5) rfl (WYM_FR (FR_e eU4) rfl (WYM_FR w50 rfl (by assumption : WYM T2))))) (by omega) (by omega) (by first | assumption | exact (PF_FR (FR_e eU5) rfl (PF_FR (FR_e eU4) rfl (PF_FR w50 rfl (by assumption : PF T2))))) (by first | assumption | exact (BDA_FR (FR_e eU5) rfl (BDA_FR (FR_e eU4) rfl (BDA_FR w50 rfl (by assumption : BDA T2))))) (by first | exact G84 | exact G108 | exact G167 | exact rty_0 (by omega) eZ | exact rty_1 (by omega) eZ F33.o) rfl) (And.intro rfl (True.intro))
        · refine l_aload_n rfl rfl ?_
          refine l_aload_n rfl rfl ?_
          refine l_gfi rfl rfl rfl rfl rfl ?_
          refine l_aload_n rfl rfl ?_
          refine l_gfi rfl rfl rfl rfl rfl ?_
          have w82 : 0 ≤ (Xi T3 904 105) ∧ (Xi T3 904 105) ≤ 5000 := hHT3.c _ _
          have w83 : 0 ≤ Xi T3 904 105 ∧ Xi T3 904 105 ≤ 5000 := hHT3.c _ _
          have w84 : 0 ≤ Xi T3 904 106 ∧ Xi T3 904 106 ≤ 9 := hHT3.c _ _
          have w85 : Xi T3 904 16 = Xi T2 904 16 := (show Xi T3 904 16 = Xi T2 904 16 from w50.x _ _ rfl)
          have w87 : Xi T3 904 19 = Xi T2 904 19 := (show Xi T3 904 19 = Xi T2 904 19 from w50.x _ _ rfl)
          have w89 : Xi T3 904 60 = Xi T2 904 60 := (show Xi T3 904 60 = Xi T2 904 60 from w50.x _ _ rfl)
          have w91 : Xi T3 904 61 = Xi T2 904 61 := (show Xi T3 904 61 = Xi T2 904 61 from w50.x _ _ rfl)
          have w93 : Xi T3 904 62 = Xi T2 904 62 := (show Xi T3 904 62 = Xi T2 904 62 from w50.x _ _ rfl)
          have w95 : Xi T3 904 65 = Xi T2 904 65 := (show Xi T3 904 65 = Xi T2 904 65 from w50.x _ _ rfl)
          have w97 : Xi T3 904 66 = Xi T2 904 66 := (show Xi T3 904 66 = Xi T2 904 66 from w50.x _ _ rfl)
          have w99 : Xi T3 904 70 = Xi T2 904 70 := (show Xi T3 904 70 = Xi T2 904 70 from w50.x _ _ rfl)
          have w101 : Xi T3 904 8 = Xi T2 904 8 := (show Xi T3 904 8 = Xi T2 904 8 from w50.x _ _ rfl)
          have w103 : Xi T3 904 94 = Xi T2 904 94 := (show Xi T3 904 94 = Xi T2 904 94 from w50.x _ _ rfl)
          refine l_callV rfl rfl rfl (t_mo_failed__b hHT3 (Xi T3 904 106) (Xi T3 904 105) ⟨by omega, by omega⟩ ⟨by omega, by omega⟩ _) ?_
          rintro _ T6 ⟨hHT6, w106, rfl, p152, q152⟩
          have hFT6 : FR md_mo_readStory__t S T6 := FR.tr hFT3 w106 rfl
          show Rl _ _ _ _ _ [] _ _
          have K152 : True := trivial
          have L152 : Hid (FLD T3 T6 (Xi T3 904 106) (Xi T3 904 105)) := ⟨(by assumption : FR md_mo_failed__b T3 T6), hHT6, p152, q152⟩
          refine l_aload_n rfl rfl ?_
          refine l_iload_n rfl rfl ?_
          refine l_pfi rfl rfl rfl rfl ?_
          obtain ⟨U7, eU7⟩ : ∃ T : sS, T = uI T6 904 8 (Int32.ofInt v3) := ⟨_, rfl⟩
          rw [← eU7]
          have hHU7 : HI U7 := by rw [eU7]; exact HI_w hHT6 (show 0 ≤ v3 by omega) (show v3 ≤ 5010 by omega)
          have hFU7 : FR md_mo_readStory__t S U7 := by rw [eU7]; exact FR.wI hFT6 (mdf_i (r := (904, 905, 8, 9)) (List.mem_of_getElem? (i := 0) rfl) (inR_i (by omega) (by omega) (by omega) (by omega)))
          have w107 : Xi U7 904 8 = v3 := by rw [eU7]; exact Xi_same (by unfold rg; omega)
          have e157 : U7 = uI T6 904 8 (Int32.ofInt v3) := eU7
          refine l_aload_n rfl rfl ?_
          refine l_dup rfl rfl ?_
          refine l_gfi rfl rfl rfl rfl rfl ?_
          have w108 : (Xi U7 904 61) = (Xi T2 904 61) := (show Xi U7 904 61 = Xi T6 904 61 from by rw [eU7]; exact Xi_ne (by omega)).trans ( (show Xi T6 904 61 = Xi T3 904 61 from w106.x _ _ rfl).trans ((show Xi T3 904 61 = Xi T2 904 61 from w50.x _ _ rfl)))
          rw [w108]
          refine l_iconst rfl ?_
          refine l_iadd rfl ?_
          refine l_pfi rfl rfl rfl rfl ?_
          obtain ⟨U8, eU8⟩ : ∃ T : sS, T = uI U7 904 61 (Int32.ofInt ((Xi T2 904 61) + 1)) := ⟨_, rfl⟩
          rw [← eU8]
          have hHU8 : HI U8 := by rw [eU8]; exact HI_w hHU7 (show 0 ≤ ((Xi T2 904 61) + 1) by omega) (show ((Xi T2 904 61) + 1) ≤ 5001 by omega)
          have hFU8 : FR md_mo_readStory__t S U8 := by rw [eU8]; exact FR.wI hFU7 (mdf_i (r := (904, 905, 61, 62)) (List.mem_of_getElem? (i := 14) rfl) (inR_i (by omega) (by omega) (by omega) (by omega)))
          have w109 : Xi U8 904 61 = ((Xi T2 904 61) + 1) := by rw [eU8]; exact Xi_same (by unfold rg; omega)
          have e167 : U8 = uI U7 904 61 (Int32.ofInt (Xi U7 904 61 + 1)) := by have t := eU8; rw [t]; first | rfl | (congr 2; omega)
          have G167 : Hid (RY7 n S U8) := by first | (have t := K152; have u := K133; exact rss_3 tr119.o (by omega) B121.o (fun q => absurd q (by omega)) (fun _ => B133.o) (fun _ => L152.o) (fun q => absurd q (by omega)) V121 e157 e167) | (have t := K152; exact rss_3 tr119.o (by omega) B121.o (fun _ => rfl) (fun q => absurd q (by omega)) (fun _ => L152.o) (fun q => absurd q (by omega)) V121 e157 e167) | exact rss_3 tr119.o (by omega) B121.o (fun q => absurd q (by omega)) (fun _ => B133.o) (fun q => absurd q (by omega)) (fun _ => rfl) V121 e157 e167 | (exfalso; omega)
          refine l_goto rfl rfl ?_
          have w110 : Xi U8 904 105 = Xi T3 904 105 := (show Xi U8 904 105 = Xi U7 904 105 from by rw [eU8]; exact Xi_ne (by omega)).trans ( (show Xi U7 904 105 = Xi T6 904 105 from by rw [eU7]; exact Xi_ne (by omega)).trans ((show Xi T6 904 105 = Xi T3 904 105 from w106.x _ _ rfl)))
          have w112 : Xi U8 904 106 = Xi T3 904 106 := (show Xi U8 904 106 = Xi U7 904 106 from by rw [eU8]; exact Xi_ne (by omega)).trans ( (show Xi U7 904 106 = Xi T6 904 106 from by rw [eU7]; exact Xi_ne (by omega)).trans ((show Xi T6 904 106 = Xi T3 904 106 from w106.x _ _ rfl)))
          have w114 : Xi U8 904 16 = Xi T2 904 16 := (show Xi U8 904 16 = Xi U7 904 16 from by rw [eU8]; exact Xi_ne (by omega)).trans ( (show Xi U7 904 16 = Xi T6 904 16 from by rw [eU7]; exact Xi_ne (by omega)).trans ( (show Xi T6 904 16 = Xi T3 904 16 from w106.x _ _ rfl).trans ((show Xi T3 904 16 = Xi T2 904 16 from w50.x _ _ rfl))))
          have w116 : Xi U8 904 19 = Xi T2 904 19 := (show Xi U8 904 19 = Xi U7 904 19 from by rw [eU8]; exact Xi_ne (by omega)).trans ( (show Xi U7 904 19 = Xi T6 904 19 from by rw [eU7]; exact Xi_ne (by omega)).trans ( (show Xi T6 904 19 = Xi T3 904 19 from w106.x _ _ rfl).trans ((show Xi T3 904 19 = Xi T2 904 19 from w50.x _ _ rfl))))
          have w118 : Xi U8 904 60 = Xi T2 904 60 := (show Xi U8 904 60 = Xi U7 904 60 from by rw [eU8]; exact Xi_ne (by omega)).trans ( (show Xi U7 904 60 = Xi T6 904 60 from by rw [eU7]; exact Xi_ne (by omega)).trans ( (show Xi T6 904 60 = Xi T3 904 60 from w106.x _ _ rfl).trans ((show Xi T3 904 60 = Xi T2 904 60 from w50.x _ _ rfl))))
          have w120 : 0 ≤ Xi U8 904 61 ∧ Xi U8 904 61 ≤ 5001 := hHU8.c _ _
          have w121 : Xi U8 904 62 = Xi T6 904 62 := (show Xi U8 904 62 = Xi U7 904 62 from by rw [eU8]; exact Xi_ne (by omega)).trans ((show Xi U7 904 62 = Xi T6 904 62 from by rw [eU7]; exact Xi_ne (by omega)))
          have w122 : 0 ≤ Xi T6 904 62 ∧ Xi T6 904 62 ≤ 9 := hHT6.c _ _
          have w123 : Xi U8 904 65 = Xi T2 904 65 := (show Xi U8 904 65 = Xi U7 904 65 from by rw [eU8]; exact Xi_ne (by omega)).trans ( (show Xi U7 904 65 = Xi T6 904 65 from by rw [eU7]; exact Xi_ne (by omega)).trans ( (show Xi T6 904 65 = Xi T3 904 65 from w106.x _ _ rfl).trans ((show Xi T3 904 65 = Xi T2 904 65 from w50.x _ _ rfl))))
          have w125 : Xi U8 904 66 = Xi T2 904 66 := (show Xi U8 904 66 = Xi U7 904 66 from by rw [eU8]; exact Xi_ne (by omega)).trans ( (show Xi U7 904 66 = Xi T6 904 66 from by rw [eU7]; exact Xi_ne (by omega)).trans ( (show Xi T6 904 66 = Xi T3 904 66 from w106.x _ _ rfl).trans ((show Xi T3 904 66 = Xi T2 904 66 from w50.x _ _ rfl))))
          have w127 : Xi U8 904 70 = Xi T2 904 70 := (show Xi U8 904 70 = Xi U7 904 70 from by rw [eU8]; exact Xi_ne (by omega)).trans ( (show Xi U7 904 70 = Xi T6 904 70 from by rw [eU7]; exact Xi_ne (by omega)).trans ( (show Xi T6 904 70 = Xi T3 904 70 from w106.x _ _ rfl).trans ((show Xi T3 904 70 = Xi T2 904 70 from w50.x _ _ rfl))))
          have w129 : Xi U8 904 8 = Xi U7 904 8 := (show Xi U8 904 8 = Xi U7 904 8 from by rw [eU8]; exact Xi_ne (by omega))
          have w130 : 0 ≤ Xi U7 904 8 ∧ Xi U7 904 8 ≤ 5010 := hHU7.c _ _
          have w131 : Xi U8 904 94 = Xi T2 904 94 := (show Xi U8 904 94 = Xi U7 904 94 from by rw [eU8]; exact Xi_ne (by omega)).trans ( (show Xi U7 904 94 = Xi T6 904 94 from by rw [eU7]; exact Xi_ne (by omega)).trans ( (show Xi T6 904 94 = Xi T3 904 94 from w106.x _ _ rfl).trans ((show Xi T3 904 94 = Xi T2 904 94 from w50.x _ _ rfl))))
          exact Rl_weak (ih36 _ (by omega) U8 hHU8 hFU8  (by first | exact fun q => absurd q (by omega) | exact fun _ => ⟨by first | assumption | exact (TXM_FR (FR_e eU8) rfl (TXM_FR (FR_e eU7) rfl (TXM_FR w106 rfl (TXM_FR w50 rfl (by assumption : TXM T2))))), by first | assumption | exact (WYM_FR (FR_e eU8) rfl (WYM_FR (FR_e eU7) rfl (WYM_FR w106 rfl (WYM_FR w50 rfl (by assumption : WYM T2))))), by first | assumption | exact (LXM_FR (FR_e eU8) rfl (LXM_FR (FR_e eU7) rfl (LXM_FR w106 rfl (LXM_FR w50 rfl (by assumption : LXM T2))))), by first | assumption | exact (LCN_FR (FR_e eU8) rfl (LCN_FR (FR_e eU7) rfl (LCN_FR w106 rfl (LCN_FR w50 rfl (by assumption : LCN T2))))), by first | assumption | exact (ABV_FR (FR_e eU8) rfl (ABV_FR (FR_e eU7) rfl (ABV_FR w106 rfl (ABV_FR w50 rfl (by assumption : ABV T2))))), by first | assumption | exact (DCM_FR (FR_e eU8) rfl (DCM_FR (FR_e eU7) rfl (DCM_FR w106 rfl (DCM_FR w50 rfl (by assumption : DCM T2))))), by first | assumption | exact (VTM_FR (FR_e eU8) rfl (VTM_FR (FR_e eU7) rfl (VTM_FR w106 rfl (VTM_FR w50 rfl (by assumption : VTM T2))))), by first | assumption | exact (VCN_FR (FR_e eU8) rfl (VCN_FR (FR_e eU7) rfl (VCN_FR w106 rfl (VCN_FR w50 rfl (by assumption : VCN T2))))), by first | assumption | exact (WYD_FR (FR_e eU8) rfl (WYD_FR (FR_e eU7) rfl (WYD_FR w106 rfl (WYD_FR w50 rfl (by assumption : WYD T2))))), by first | assumption | exact (RDT_FR hHU7 (FR_e eU8) rfl rfl rfl (RDT_FR hHT6 (FR_e eU7) rfl rfl rfl (RDT_FR hHT3 w106 rfl rfl rfl (by assumption : RDT T3)))), by first | assumption | exact (AKR_FR (FR_e eU8) rfl (AKR_FR (FR_e eU7) rfl (AKR_FR w106 rfl (AKR_FR w50 rfl (by assumption : AKR T2))))), by omega, by omega⟩ | exact fun _ => (by obtain ⟨a1, a2, a3, a4, a5, a6, a7, a8, a9, a10, a11, a12, a13⟩ := hI; exact ⟨TXM_FR hFU8 rfl a1, WYM_FR hFU8 rfl a2, LXM_FR hFU8 rfl a3, LCN_FR hFU8 rfl a4, ABV_FR hFU8 rfl a5, DCM_FR hFU8 rfl a6, VTM_FR hFU8 rfl a7, VCN_FR hFU8 rfl a8, WYD_FR hFU8 rfl a9, RDT_FR hH hFU8 rfl rfl rfl a10, AKR_FR hFU8 rfl a11, by omega, by omega⟩)) (by first | assumption | exact (ABV_FR (FR_e eU8) rfl (ABV_FR (FR_e eU7) rfl (ABV_FR w106 rfl (ABV_FR w50 rfl (by assumption : ABV T2)))))) (by first | assumption | exact (WYM_FR (FR_e eU8) rfl (WYM_FR (FR_e eU7) rfl (WYM_FR w106 rfl (WYM_FR w50 rfl (by assumption : WYM T2)))))) (by omega) (by omega) (by first | assumption | exact (PF_FR (FR_e eU8) rfl (PF_FR (FR_e eU7) rfl (PF_FR w106 rfl (PF_FR w50 rfl (by assumption : PF T2)))))) (by first | assumption | exact (BDA_FR (FR_e eU8) rfl (BDA_FR (FR_e eU7) rfl (BDA_FR w106 rfl (BDA_FR w50 rfl (by assumption : BDA T2)))))) (by first | exact G84 | exact G108 | exact G167 | exact rty_0 (by omega) eZ | exact rty_1 (by omega) eZ F33.o) rfl) (And.intro rfl (True.intro))
      · refine l_aload_n rfl rfl ?_
        refine l_iload_n rfl rfl ?_
        have w133 : 0 ≤ Xi T3 904 105 ∧ Xi T3 904 105 ≤ 5000 := hHT3.c _ _
        have w134 : 0 ≤ Xi T3 904 106 ∧ Xi T3 904 106 ≤ 9 := hHT3.c _ _
        have w135 : Xi T3 904 16 = Xi T2 904 16 := (show Xi T3 904 16 = Xi T2 904 16 from w50.x _ _ rfl)
        have w137 : Xi T3 904 19 = Xi T2 904 19 := (show Xi T3 904 19 = Xi T2 904 19 from w50.x _ _ rfl)
        have w139 : Xi T3 904 60 = Xi T2 904 60 := (show Xi T3 904 60 = Xi T2 904 60 from w50.x _ _ rfl)
        have w141 : Xi T3 904 61 = Xi T2 904 61 := (show Xi T3 904 61 = Xi T2 904 61 from w50.x _ _ rfl)
        have w143 : Xi T3 904 62 = Xi T2 904 62 := (show Xi T3 904 62 = Xi T2 904 62 from w50.x _ _ rfl)
        have w145 : Xi T3 904 65 = Xi T2 904 65 := (show Xi T3 904 65 = Xi T2 904 65 from w50.x _ _ rfl)
        have w147 : Xi T3 904 66 = Xi T2 904 66 := (show Xi T3 904 66 = Xi T2 904 66 from w50.x _ _ rfl)
        have w149 : Xi T3 904 70 = Xi T2 904 70 := (show Xi T3 904 70 = Xi T2 904 70 from w50.x _ _ rfl)
        have w151 : Xi T3 904 78 = Xi T2 904 78 := (show Xi T3 904 78 = Xi T2 904 78 from w50.x _ _ rfl)
        have w152 : -2 ≤ Xi T2 904 78 ∧ Xi T2 904 78 ≤ 5010 := hHT2.c _ _
        have w153 : Xi T3 904 8 = Xi T2 904 8 := (show Xi T3 904 8 = Xi T2 904 8 from w50.x _ _ rfl)
        have w155 : Xi T3 904 94 = Xi T2 904 94 := (show Xi T3 904 94 = Xi T2 904 94 from w50.x _ _ rfl)
        refine l_callV rfl rfl rfl (t_mo_does__b hHT3 n v1 ⟨by omega, by omega⟩ (by first | assumption | exact (TK_FR hFT3 rfl (by assumption : TK S _))) (by first | assumption | exact (RNV_FR w50 rfl (by assumption : RNV T2 _))) (by first | assumption | exact (TXK_FR hFT3 rfl (by assumption : TXK S _))) (⟨by first | assumption | exact (TXM_FR w50 rfl (by assumption : TXM T2)), by first | assumption | exact (WYM_FR w50 rfl (by assumption : WYM T2)), by first | assumption | exact (LXM_FR w50 rfl (by assumption : LXM T2)), by first | assumption | exact (LCN_FR w50 rfl (by assumption : LCN T2)), by first | assumption | exact (ABV_FR w50 rfl (by assumption : ABV T2)), by first | assumption | exact (DCM_FR w50 rfl (by assumption : DCM T2)), by first | assumption | exact (VTM_FR w50 rfl (by assumption : VTM T2)), by first | assumption | exact (VCN_FR w50 rfl (by assumption : VCN T2)), by first | assumption | exact (WYD_FR w50 rfl (by assumption : WYD T2)), g121 (by omega), by first | assumption | exact (AKR_FR w50 rfl (by assumption : AKR T2)), by omega, by omega⟩) (by first | assumption | exact (SNQ_FR w50 rfl (by assumption : SNQ T2 _))) (f121 (by omega)) (fun e => by have t := p119.2.2.2.1 (by have y : Xi T3 904 70 = Xi T2 904 70 := ((show Xi T3 904 70 = Xi T2 904 70 from w50.x _ _ rfl)); omega); have z : Xi T3 904 78 = Xi T2 904 78 := ((show Xi T3 904 78 = Xi T2 904 78 from w50.x _ _ rfl)); omega) _) ?_
        rintro _ T9 ⟨hHT9, w158, rfl, t133, gr133, fn133⟩
        have hFT9 : FR md_mo_readStory__t S T9 := FR.tr hFT3 w158 rfl
        show Rl _ _ _ _ _ [] _ _
        have txm133 : TXM T9 := t133.1
        have wym133 : WYM T9 := t133.2.1
        have lxm133 : LXM T9 := t133.2.2.1
        have lcn133 : LCN T9 := t133.2.2.2.1
        have abv133 : ABV T9 := t133.2.2.2.2.1
        have dcm133 : DCM T9 := t133.2.2.2.2.2.1
        have vtm133 : VTM T9 := t133.2.2.2.2.2.2.1
        have vcn133 : VCN T9 := t133.2.2.2.2.2.2.2.1
        have wyd133 : WYD T9 := t133.2.2.2.2.2.2.2.2.1
        have rdt133 : RDT T9 := t133.2.2.2.2.2.2.2.2.2.1
        have akr133 : AKR T9 := t133.2.2.2.2.2.2.2.2.2.2.1
        have i133a : Xi T9 904 60 < Xi T9 904 19 := t133.2.2.2.2.2.2.2.2.2.2.2.1
        have i133b : 2 ≤ Xi T9 904 16 := t133.2.2.2.2.2.2.2.2.2.2.2.2
        have K133 : True := trivial
        have B133 : Hid (DSB n T3 T9 v1) := ⟨hHT9, (by assumption : FR md_mo_does__b T3 T9), t133, gr133, fn133⟩
        clear fn133 gr133
        refine l_aload_n rfl rfl ?_
        refine l_gfi rfl rfl rfl rfl rfl ?_
        have w159 : 0 ≤ (Xi T9 904 106) ∧ (Xi T9 904 106) ≤ 9 := hHT9.c _ _
        refine l_if_eq rfl rfl (by unfold rg; omega) (fun w160 => ?_) (fun w161 => ?_)
        · refine l_aload_n rfl rfl ?_
          refine l_iload_n rfl rfl ?_
          refine l_pfi rfl rfl rfl rfl ?_
          obtain ⟨U10, eU10⟩ : ∃ T : sS, T = uI T9 904 8 (Int32.ofInt v3) := ⟨_, rfl⟩
          rw [← eU10]
          have hHU10 : HI U10 := by rw [eU10]; exact HI_w hHT9 (show 0 ≤ v3 by omega) (show v3 ≤ 5010 by omega)
          have hFU10 : FR md_mo_readStory__t S U10 := by rw [eU10]; exact FR.wI hFT9 (mdf_i (r := (904, 905, 8, 9)) (List.mem_of_getElem? (i := 0) rfl) (inR_i (by omega) (by omega) (by omega) (by omega)))
          have w162 : Xi U10 904 8 = v3 := by rw [eU10]; exact Xi_same (by unfold rg; omega)
          have e157 : U10 = uI T9 904 8 (Int32.ofInt v3) := eU10
          refine l_aload_n rfl rfl ?_
          refine l_dup rfl rfl ?_
          refine l_gfi rfl rfl rfl rfl rfl ?_
          have w163 : (Xi U10 904 61) = (Xi T2 904 61) := (show Xi U10 904 61 = Xi T9 904 61 from by rw [eU10]; exact Xi_ne (by omega)).trans ( (show Xi T9 904 61 = Xi T3 904 61 from w158.x _ _ rfl).trans ((show Xi T3 904 61 = Xi T2 904 61 from w50.x _ _ rfl)))
          rw [w163]
          refine l_iconst rfl ?_
          refine l_iadd rfl ?_
          refine l_pfi rfl rfl rfl rfl ?_
          obtain ⟨U11, eU11⟩ : ∃ T : sS, T = uI U10 904 61 (Int32.ofInt ((Xi T2 904 61) + 1)) := ⟨_, rfl⟩
          rw [← eU11]
          have hHU11 : HI U11 := by rw [eU11]; exact HI_w hHU10 (show 0 ≤ ((Xi T2 904 61) + 1) by omega) (show ((Xi T2 904 61) + 1) ≤ 5001 by omega)
          have hFU11 : FR md_mo_readStory__t S U11 := by rw [eU11]; exact FR.wI hFU10 (mdf_i (r := (904, 905, 61, 62)) (List.mem_of_getElem? (i := 14) rfl) (inR_i (by omega) (by omega) (by omega) (by omega)))
          have w164 : Xi U11 904 61 = ((Xi T2 904 61) + 1) := by rw [eU11]; exact Xi_same (by unfold rg; omega)
          have e167 : U11 = uI U10 904 61 (Int32.ofInt (Xi U10 904 61 + 1)) := by have t := eU11; rw [t]; first | rfl | (congr 2; omega)
          have G167 : Hid (RY7 n S U11) := by first | (have t := K152; have u := K133; exact rss_3 tr119.o (by omega) B121.o (fun q => absurd q (by omega)) (fun _ => B133.o) (fun _ => L152.o) (fun q => absurd q (by omega)) V121 e157 e167) | (have t := K152; exact rss_3 tr119.o (by omega) B121.o (fun _ => rfl) (fun q => absurd q (by omega)) (fun _ => L152.o) (fun q => absurd q (by omega)) V121 e157 e167) | exact rss_3 tr119.o (by omega) B121.o (fun q => absurd q (by omega)) (fun _ => B133.o) (fun q => absurd q (by omega)) (fun _ => rfl) V121 e157 e167 | (exfalso; omega)
          refine l_goto rfl rfl ?_
          have w165 : Xi U11 904 105 = Xi T9 904 105 := (show Xi U11 904 105 = Xi U10 904 105 from by rw [eU11]; exact Xi_ne (by omega)).trans ((show Xi U10 904 105 = Xi T9 904 105 from by rw [eU10]; exact Xi_ne (by omega)))
          have w166 : 0 ≤ Xi T9 904 105 ∧ Xi T9 904 105 ≤ 5000 := hHT9.c _ _
          have w167 : Xi U11 904 106 = Xi T9 904 106 := (show Xi U11 904 106 = Xi U10 904 106 from by rw [eU11]; exact Xi_ne (by omega)).trans ((show Xi U10 904 106 = Xi T9 904 106 from by rw [eU10]; exact Xi_ne (by omega)))
          have w168 : 0 ≤ Xi T9 904 106 ∧ Xi T9 904 106 ≤ 9 := hHT9.c _ _
          have w169 : Xi U11 904 16 = Xi T9 904 16 := (show Xi U11 904 16 = Xi U10 904 16 from by rw [eU11]; exact Xi_ne (by omega)).trans ((show Xi U10 904 16 = Xi T9 904 16 from by rw [eU10]; exact Xi_ne (by omega)))
          have w170 : 0 ≤ Xi T9 904 16 ∧ Xi T9 904 16 ≤ 16 := hHT9.c _ _
          have w171 : Xi U11 904 19 = Xi T9 904 19 := (show Xi U11 904 19 = Xi U10 904 19 from by rw [eU11]; exact Xi_ne (by omega)).trans ((show Xi U10 904 19 = Xi T9 904 19 from by rw [eU10]; exact Xi_ne (by omega)))
          have w172 : 0 ≤ Xi T9 904 19 ∧ Xi T9 904 19 ≤ 24 := hHT9.c _ _
          have w173 : Xi U11 904 60 = Xi T9 904 60 := (show Xi U11 904 60 = Xi U10 904 60 from by rw [eU11]; exact Xi_ne (by omega)).trans ((show Xi U10 904 60 = Xi T9 904 60 from by rw [eU10]; exact Xi_ne (by omega)))
          have w174 : -1 ≤ Xi T9 904 60 ∧ Xi T9 904 60 ≤ 23 := hHT9.c _ _
          have w175 : 0 ≤ Xi U11 904 61 ∧ Xi U11 904 61 ≤ 5001 := hHU11.c _ _
          have w176 : Xi U11 904 62 = Xi T2 904 62 := (show Xi U11 904 62 = Xi U10 904 62 from by rw [eU11]; exact Xi_ne (by omega)).trans ( (show Xi U10 904 62 = Xi T9 904 62 from by rw [eU10]; exact Xi_ne (by omega)).trans ( (show Xi T9 904 62 = Xi T3 904 62 from w158.x _ _ rfl).trans ((show Xi T3 904 62 = Xi T2 904 62 from w50.x _ _ rfl))))
          have w178 : Xi U11 904 65 = Xi T2 904 65 := (show Xi U11 904 65 = Xi U10 904 65 from by rw [eU11]; exact Xi_ne (by omega)).trans ( (show Xi U10 904 65 = Xi T9 904 65 from by rw [eU10]; exact Xi_ne (by omega)).trans ( (show Xi T9 904 65 = Xi T3 904 65 from w158.x _ _ rfl).trans ((show Xi T3 904 65 = Xi T2 904 65 from w50.x _ _ rfl))))
          have w180 : Xi U11 904 66 = Xi T2 904 66 := (show Xi U11 904 66 = Xi U10 904 66 from by rw [eU11]; exact Xi_ne (by omega)).trans ( (show Xi U10 904 66 = Xi T9 904 66 from by rw [eU10]; exact Xi_ne (by omega)).trans ( (show Xi T9 904 66 = Xi T3 904 66 from w158.x _ _ rfl).trans ((show Xi T3 904 66 = Xi T2 904 66 from w50.x _ _ rfl))))
          have w182 : Xi U11 904 70 = Xi T2 904 70 := (show Xi U11 904 70 = Xi U10 904 70 from by rw [eU11]; exact Xi_ne (by omega)).trans ( (show Xi U10 904 70 = Xi T9 904 70 from by rw [eU10]; exact Xi_ne (by omega)).trans ( (show Xi T9 904 70 = Xi T3 904 70 from w158.x _ _ rfl).trans ((show Xi T3 904 70 = Xi T2 904 70 from w50.x _ _ rfl))))
          have w184 : Xi U11 904 8 = Xi U10 904 8 := (show Xi U11 904 8 = Xi U10 904 8 from by rw [eU11]; exact Xi_ne (by omega))
          have w185 : 0 ≤ Xi U10 904 8 ∧ Xi U10 904 8 ≤ 5010 := hHU10.c _ _
          have w186 : Xi U11 904 94 = Xi T2 904 94 := (show Xi U11 904 94 = Xi U10 904 94 from by rw [eU11]; exact Xi_ne (by omega)).trans ( (show Xi U10 904 94 = Xi T9 904 94 from by rw [eU10]; exact Xi_ne (by omega)).trans ( (show Xi T9 904 94 = Xi T3 904 94 from w158.x _ _ rfl).trans ((show Xi T3 904 94 = Xi T2 904 94 from w50.x _ _ rfl))))
          exact Rl_weak (ih36 _ (by omega) U11 hHU11 hFU11  (by first | exact fun q => absurd q (by omega) | exact fun _ => ⟨by first | assumption | exact (TXM_FR (FR_e eU11) rfl (TXM_FR (FR_e eU10) rfl (by assumption : TXM T9))), by first | assumption | exact (WYM_FR (FR_e eU11) rfl (WYM_FR (FR_e eU10) rfl (by assumption : WYM T9))), by first | assumption | exact (LXM_FR (FR_e eU11) rfl (LXM_FR (FR_e eU10) rfl (by assumption : LXM T9))), by first | assumption | exact (LCN_FR (FR_e eU11) rfl (LCN_FR (FR_e eU10) rfl (by assumption : LCN T9))), by first | assumption | exact (ABV_FR (FR_e eU11) rfl (ABV_FR (FR_e eU10) rfl (by assumption : ABV T9))), by first | assumption | exact (DCM_FR (FR_e eU11) rfl (DCM_FR (FR_e eU10) rfl (by assumption : DCM T9))), by first | assumption | exact (VTM_FR (FR_e eU11) rfl (VTM_FR (FR_e eU10) rfl (by assumption : VTM T9))), by first | assumption | exact (VCN_FR (FR_e eU11) rfl (VCN_FR (FR_e eU10) rfl (by assumption : VCN T9))), by first | assumption | exact (WYD_FR (FR_e eU11) rfl (WYD_FR (FR_e eU10) rfl (by assumption : WYD T9))), by first | assumption | exact (RDT_FR hHU10 (FR_e eU11) rfl rfl rfl (RDT_FR hHT9 (FR_e eU10) rfl rfl rfl (by assumption : RDT T9))), by first | assumption | exact (AKR_FR (FR_e eU11) rfl (AKR_FR (FR_e eU10) rfl (by assumption : AKR T9))), by omega, by omega⟩ | exact fun _ => (by obtain ⟨a1, a2, a3, a4, a5, a6, a7, a8, a9, a10, a11, a12, a13⟩ := hI; exact ⟨TXM_FR hFU11 rfl a1, WYM_FR hFU11 rfl a2, LXM_FR hFU11 rfl a3, LCN_FR hFU11 rfl a4, ABV_FR hFU11 rfl a5, DCM_FR hFU11 rfl a6, VTM_FR hFU11 rfl a7, VCN_FR hFU11 rfl a8, WYD_FR hFU11 rfl a9, RDT_FR hH hFU11 rfl rfl rfl a10, AKR_FR hFU11 rfl a11, by omega, by omega⟩)) (by first | assumption | exact (ABV_FR (FR_e eU11) rfl (ABV_FR (FR_e eU10) rfl (by assumption : ABV T9)))) (by first | assumption | exact (WYM_FR (FR_e eU11) rfl (WYM_FR (FR_e eU10) rfl (by assumption : WYM T9)))) (by omega) (by omega) (by first | assumption | exact (PF_FR (FR_e eU11) rfl (PF_FR (FR_e eU10) rfl (PF_FR w158 rfl (PF_FR w50 rfl (by assumption : PF T2)))))) (by first | assumption | exact (BDA_FR (FR_e eU11) rfl (BDA_FR (FR_e eU10) rfl (BDA_FR w158 rfl (BDA_FR w50 rfl (by assumption : BDA T2)))))) (by first | exact G84 | exact G108 | exact G167 | exact rty_0 (by omega) eZ | exact rty_1 (by omega) eZ F33.o) rfl) (And.intro rfl (True.intro))
        · refine l_aload_n rfl rfl ?_
          refine l_aload_n rfl rfl ?_
          refine l_gfi rfl rfl rfl rfl rfl ?_
          refine l_aload_n rfl rfl ?_
          refine l_gfi rfl rfl rfl rfl rfl ?_
          have w188 : 0 ≤ (Xi T9 904 105) ∧ (Xi T9 904 105) ≤ 5000 := hHT9.c _ _
          have w189 : 0 ≤ Xi T9 904 105 ∧ Xi T9 904 105 ≤ 5000 := hHT9.c _ _
          have w190 : 0 ≤ Xi T9 904 106 ∧ Xi T9 904 106 ≤ 9 := hHT9.c _ _
          have w191 : 0 ≤ Xi T9 904 16 ∧ Xi T9 904 16 ≤ 16 := hHT9.c _ _
          have w192 : 0 ≤ Xi T9 904 19 ∧ Xi T9 904 19 ≤ 24 := hHT9.c _ _
          have w193 : -1 ≤ Xi T9 904 60 ∧ Xi T9 904 60 ≤ 23 := hHT9.c _ _
          have w194 : Xi T9 904 61 = Xi T2 904 61 := (show Xi T9 904 61 = Xi T3 904 61 from w158.x _ _ rfl).trans ((show Xi T3 904 61 = Xi T2 904 61 from w50.x _ _ rfl))
          have w196 : Xi T9 904 62 = Xi T2 904 62 := (show Xi T9 904 62 = Xi T3 904 62 from w158.x _ _ rfl).trans ((show Xi T3 904 62 = Xi T2 904 62 from w50.x _ _ rfl))
          have w198 : Xi T9 904 65 = Xi T2 904 65 := (show Xi T9 904 65 = Xi T3 904 65 from w158.x _ _ rfl).trans ((show Xi T3 904 65 = Xi T2 904 65 from w50.x _ _ rfl))
          have w200 : Xi T9 904 66 = Xi T2 904 66 := (show Xi T9 904 66 = Xi T3 904 66 from w158.x _ _ rfl).trans ((show Xi T3 904 66 = Xi T2 904 66 from w50.x _ _ rfl))
          have w202 : Xi T9 904 70 = Xi T2 904 70 := (show Xi T9 904 70 = Xi T3 904 70 from w158.x _ _ rfl).trans ((show Xi T3 904 70 = Xi T2 904 70 from w50.x _ _ rfl))
          have w204 : Xi T9 904 8 = Xi T2 904 8 := (show Xi T9 904 8 = Xi T3 904 8 from w158.x _ _ rfl).trans ((show Xi T3 904 8 = Xi T2 904 8 from w50.x _ _ rfl))
          have w206 : Xi T9 904 94 = Xi T2 904 94 := (show Xi T9 904 94 = Xi T3 904 94 from w158.x _ _ rfl).trans ((show Xi T3 904 94 = Xi T2 904 94 from w50.x _ _ rfl))
          refine l_callV rfl rfl rfl (t_mo_failed__b hHT9 (Xi T9 904 106) (Xi T9 904 105) ⟨by omega, by omega⟩ ⟨by omega, by omega⟩ _) ?_
          rintro _ T12 ⟨hHT12, w209, rfl, p152, q152⟩
          have hFT12 : FR md_mo_readStory__t S T12 := FR.tr hFT9 w209 rfl
          show Rl _ _ _ _ _ [] _ _
          have K152 : True := trivial
          have L152 : Hid (FLD T9 T12 (Xi T9 904 106) (Xi T9 904 105)) := ⟨(by assumption : FR md_mo_failed__b T9 T12), hHT12, p152, q152⟩
          refine l_aload_n rfl rfl ?_
          refine l_iload_n rfl rfl ?_
          refine l_pfi rfl rfl rfl rfl ?_
          obtain ⟨U13, eU13⟩ : ∃ T : sS, T = uI T12 904 8 (Int32.ofInt v3) := ⟨_, rfl⟩
          rw [← eU13]
          have hHU13 : HI U13 := by rw [eU13]; exact HI_w hHT12 (show 0 ≤ v3 by omega) (show v3 ≤ 5010 by omega)
          have hFU13 : FR md_mo_readStory__t S U13 := by rw [eU13]; exact FR.wI hFT12 (mdf_i (r := (904, 905, 8, 9)) (List.mem_of_getElem? (i := 0) rfl) (inR_i (by omega) (by omega) (by omega) (by omega)))
          have w210 : Xi U13 904 8 = v3 := by rw [eU13]; exact Xi_same (by unfold rg; omega)
          have e157 : U13 = uI T12 904 8 (Int32.ofInt v3) := eU13
          refine l_aload_n rfl rfl ?_
          refine l_dup rfl rfl ?_
          refine l_gfi rfl rfl rfl rfl rfl ?_
          have w211 : (Xi U13 904 61) = (Xi T2 904 61) := (show Xi U13 904 61 = Xi T12 904 61 from by rw [eU13]; exact Xi_ne (by omega)).trans ( (show Xi T12 904 61 = Xi T9 904 61 from w209.x _ _ rfl).trans ( (show Xi T9 904 61 = Xi T3 904 61 from w158.x _ _ rfl).trans ((show Xi T3 904 61 = Xi T2 904 61 from w50.x _ _ rfl))))
          rw [w211]
          refine l_iconst rfl ?_
          refine l_iadd rfl ?_
          refine l_pfi rfl rfl rfl rfl ?_
          obtain ⟨U14, eU14⟩ : ∃ T : sS, T = uI U13 904 61 (Int32.ofInt ((Xi T2 904 61) + 1)) := ⟨_, rfl⟩
          rw [← eU14]
          have hHU14 : HI U14 := by rw [eU14]; exact HI_w hHU13 (show 0 ≤ ((Xi T2 904 61) + 1) by omega) (show ((Xi T2 904 61) + 1) ≤ 5001 by omega)
          have hFU14 : FR md_mo_readStory__t S U14 := by rw [eU14]; exact FR.wI hFU13 (mdf_i (r := (904, 905, 61, 62)) (List.mem_of_getElem? (i := 14) rfl) (inR_i (by omega) (by omega) (by omega) (by omega)))
          have w212 : Xi U14 904 61 = ((Xi T2 904 61) + 1) := by rw [eU14]; exact Xi_same (by unfold rg; omega)
          have e167 : U14 = uI U13 904 61 (Int32.ofInt (Xi U13 904 61 + 1)) := by have t := eU14; rw [t]; first | rfl | (congr 2; omega)
          have G167 : Hid (RY7 n S U14) := by first | (have t := K152; have u := K133; exact rss_3 tr119.o (by omega) B121.o (fun q => absurd q (by omega)) (fun _ => B133.o) (fun _ => L152.o) (fun q => absurd q (by omega)) V121 e157 e167) | (have t := K152; exact rss_3 tr119.o (by omega) B121.o (fun _ => rfl) (fun q => absurd q (by omega)) (fun _ => L152.o) (fun q => absurd q (by omega)) V121 e157 e167) | exact rss_3 tr119.o (by omega) B121.o (fun q => absurd q (by omega)) (fun _ => B133.o) (fun q => absurd q (by omega)) (fun _ => rfl) V121 e157 e167 | (exfalso; omega)
          refine l_goto rfl rfl ?_
          have w213 : Xi U14 904 105 = Xi T9 904 105 := (show Xi U14 904 105 = Xi U13 904 105 from by rw [eU14]; exact Xi_ne (by omega)).trans ( (show Xi U13 904 105 = Xi T12 904 105 from by rw [eU13]; exact Xi_ne (by omega)).trans ((show Xi T12 904 105 = Xi T9 904 105 from w209.x _ _ rfl)))
          have w215 : Xi U14 904 106 = Xi T9 904 106 := (show Xi U14 904 106 = Xi U13 904 106 from by rw [eU14]; exact Xi_ne (by omega)).trans ( (show Xi U13 904 106 = Xi T12 904 106 from by rw [eU13]; exact Xi_ne (by omega)).trans ((show Xi T12 904 106 = Xi T9 904 106 from w209.x _ _ rfl)))
          have w217 : Xi U14 904 16 = Xi T9 904 16 := (show Xi U14 904 16 = Xi U13 904 16 from by rw [eU14]; exact Xi_ne (by omega)).trans ( (show Xi U13 904 16 = Xi T12 904 16 from by rw [eU13]; exact Xi_ne (by omega)).trans ((show Xi T12 904 16 = Xi T9 904 16 from w209.x _ _ rfl)))
          have w219 : Xi U14 904 19 = Xi T9 904 19 := (show Xi U14 904 19 = Xi U13 904 19 from by rw [eU14]; exact Xi_ne (by omega)).trans ( (show Xi U13 904 19 = Xi T12 904 19 from by rw [eU13]; exact Xi_ne (by omega)).trans ((show Xi T12 904 19 = Xi T9 904 19 from w209.x _ _ rfl)))
          have w221 : Xi U14 904 60 = Xi T9 904 60 := (show Xi U14 904 60 = Xi U13 904 60 from by rw [eU14]; exact Xi_ne (by omega)).trans ( (show Xi U13 904 60 = Xi T12 904 60 from by rw [eU13]; exact Xi_ne (by omega)).trans ((show Xi T12 904 60 = Xi T9 904 60 from w209.x _ _ rfl)))
          have w223 : 0 ≤ Xi U14 904 61 ∧ Xi U14 904 61 ≤ 5001 := hHU14.c _ _
          have w224 : Xi U14 904 62 = Xi T12 904 62 := (show Xi U14 904 62 = Xi U13 904 62 from by rw [eU14]; exact Xi_ne (by omega)).trans ((show Xi U13 904 62 = Xi T12 904 62 from by rw [eU13]; exact Xi_ne (by omega)))
          have w225 : 0 ≤ Xi T12 904 62 ∧ Xi T12 904 62 ≤ 9 := hHT12.c _ _
          have w226 : Xi U14 904 65 = Xi T2 904 65 := (show Xi U14 904 65 = Xi U13 904 65 from by rw [eU14]; exact Xi_ne (by omega)).trans ( (show Xi U13 904 65 = Xi T12 904 65 from by rw [eU13]; exact Xi_ne (by omega)).trans ( (show Xi T12 904 65 = Xi T9 904 65 from w209.x _ _ rfl).trans ( (show Xi T9 904 65 = Xi T3 904 65 from w158.x _ _ rfl).trans ((show Xi T3 904 65 = Xi T2 904 65 from w50.x _ _ rfl)))))
          have w228 : Xi U14 904 66 = Xi T2 904 66 := (show Xi U14 904 66 = Xi U13 904 66 from by rw [eU14]; exact Xi_ne (by omega)).trans ( (show Xi U13 904 66 = Xi T12 904 66 from by rw [eU13]; exact Xi_ne (by omega)).trans ( (show Xi T12 904 66 = Xi T9 904 66 from w209.x _ _ rfl).trans ( (show Xi T9 904 66 = Xi T3 904 66 from w158.x _ _ rfl).trans ((show Xi T3 904 66 = Xi T2 904 66 from w50.x _ _ rfl)))))
          have w230 : Xi U14 904 70 = Xi T2 904 70 := (show Xi U14 904 70 = Xi U13 904 70 from by rw [eU14]; exact Xi_ne (by omega)).trans ( (show Xi U13 904 70 = Xi T12 904 70 from by rw [eU13]; exact Xi_ne (by omega)).trans ( (show Xi T12 904 70 = Xi T9 904 70 from w209.x _ _ rfl).trans ( (show Xi T9 904 70 = Xi T3 904 70 from w158.x _ _ rfl).trans ((show Xi T3 904 70 = Xi T2 904 70 from w50.x _ _ rfl)))))
          have w232 : Xi U14 904 8 = Xi U13 904 8 := (show Xi U14 904 8 = Xi U13 904 8 from by rw [eU14]; exact Xi_ne (by omega))
          have w233 : 0 ≤ Xi U13 904 8 ∧ Xi U13 904 8 ≤ 5010 := hHU13.c _ _
          have w234 : Xi U14 904 94 = Xi T2 904 94 := (show Xi U14 904 94 = Xi U13 904 94 from by rw [eU14]; exact Xi_ne (by omega)).trans ( (show Xi U13 904 94 = Xi T12 904 94 from by rw [eU13]; exact Xi_ne (by omega)).trans ( (show Xi T12 904 94 = Xi T9 904 94 from w209.x _ _ rfl).trans ( (show Xi T9 904 94 = Xi T3 904 94 from w158.x _ _ rfl).trans ((show Xi T3 904 94 = Xi T2 904 94 from w50.x _ _ rfl)))))
          exact Rl_weak (ih36 _ (by omega) U14 hHU14 hFU14  (by first | exact fun q => absurd q (by omega) | exact fun _ => ⟨by first | assumption | exact (TXM_FR (FR_e eU14) rfl (TXM_FR (FR_e eU13) rfl (TXM_FR w209 rfl (by assumption : TXM T9)))), by first | assumption | exact (WYM_FR (FR_e eU14) rfl (WYM_FR (FR_e eU13) rfl (WYM_FR w209 rfl (by assumption : WYM T9)))), by first | assumption | exact (LXM_FR (FR_e eU14) rfl (LXM_FR (FR_e eU13) rfl (LXM_FR w209 rfl (by assumption : LXM T9)))), by first | assumption | exact (LCN_FR (FR_e eU14) rfl (LCN_FR (FR_e eU13) rfl (LCN_FR w209 rfl (by assumption : LCN T9)))), by first | assumption | exact (ABV_FR (FR_e eU14) rfl (ABV_FR (FR_e eU13) rfl (ABV_FR w209 rfl (by assumption : ABV T9)))), by first | assumption | exact (DCM_FR (FR_e eU14) rfl (DCM_FR (FR_e eU13) rfl (DCM_FR w209 rfl (by assumption : DCM T9)))), by first | assumption | exact (VTM_FR (FR_e eU14) rfl (VTM_FR (FR_e eU13) rfl (VTM_FR w209 rfl (by assumption : VTM T9)))), by first | assumption | exact (VCN_FR (FR_e eU14) rfl (VCN_FR (FR_e eU13) rfl (VCN_FR w209 rfl (by assumption : VCN T9)))), by first | assumption | exact (WYD_FR (FR_e eU14) rfl (WYD_FR (FR_e eU13) rfl (WYD_FR w209 rfl (by assumption : WYD T9)))), by first | assumption | exact (RDT_FR hHU13 (FR_e eU14) rfl rfl rfl (RDT_FR hHT12 (FR_e eU13) rfl rfl rfl (RDT_FR hHT9 w209 rfl rfl rfl (by assumption : RDT T9)))), by first | assumption | exact (AKR_FR (FR_e eU14) rfl (AKR_FR (FR_e eU13) rfl (AKR_FR w209 rfl (by assumption : AKR T9)))), by omega, by omega⟩ | exact fun _ => (by obtain ⟨a1, a2, a3, a4, a5, a6, a7, a8, a9, a10, a11, a12, a13⟩ := hI; exact ⟨TXM_FR hFU14 rfl a1, WYM_FR hFU14 rfl a2, LXM_FR hFU14 rfl a3, LCN_FR hFU14 rfl a4, ABV_FR hFU14 rfl a5, DCM_FR hFU14 rfl a6, VTM_FR hFU14 rfl a7, VCN_FR hFU14 rfl a8, WYD_FR hFU14 rfl a9, RDT_FR hH hFU14 rfl rfl rfl a10, AKR_FR hFU14 rfl a11, by omega, by omega⟩)) (by first | assumption | exact (ABV_FR (FR_e eU14) rfl (ABV_FR (FR_e eU13) rfl (ABV_FR w209 rfl (by assumption : ABV T9))))) (by first | assumption | exact (WYM_FR (FR_e eU14) rfl (WYM_FR (FR_e eU13) rfl (WYM_FR w209 rfl (by assumption : WYM T9))))) (by omega) (by omega) (by first | assumption | exact (PF_FR (FR_e eU14) rfl (PF_FR (FR_e eU13) rfl (PF_FR w209 rfl (PF_FR w158 rfl (PF_FR w50 rfl (by assumption : PF T2))))))) (by first | assumption | exact (BDA_FR (FR_e eU14) rfl (BDA_FR (FR_e eU13) rfl (BDA_FR w209 rfl (BDA_FR w158 rfl (BDA_FR w50 rfl (by assumption : BDA T2))))))) (by first | exact G84 | exact G108 | exact G167 | exact rty_0 (by omega) eZ | exact rty_1 (by omega) eZ F33.o) rfl) (And.intro rfl (True.intro))
    have C56 : ∀  (T15 : sS) (_ : HI T15) (_ : FR md_mo_readStory__t S T15), (TXM T15) → (WYM T15) → (LXM T15) → (LCN T15) → (ABV T15) → (DCM T15) → (VTM T15) → (VCN T15) → (WYD T15) → (RDT T15) → (AKR T15) → (Xi T15 904 60 < Xi T15 904 19) → (2 ≤ Xi T15 904 16) → (Xi T15 904 8 ≤ n) → (Xi T15 904 61 ≤ Xi T15 904 8) → (Xi T15 904 62 = 0) → (Xi T15 907 (Xi T15 904 8).toNat ≠ 1) → (PF T15) → (BDA T15) → (Hid (∃ k : Nat, RC7 n (rs0 S) k T15)) → ((20000 - Xi T15 904 8 - 9000 * Xi T15 904 62).toNat ≤ n36) → Rl lay0 (d + 13) m_mo_readStory 56 [(0, .ref 904)] [] T15 (Q_mo_readStory__t S n) := by
      intro T15 hHT15 hFT15 TXM56 WYM56 LXM56 LCN56 ABV56 DCM56 VTM56 VCN56 WYD56 RDT56 AKR56 w236 w237 w238 w239 w240 w241 PF56 BD56 tr56 w242
      have w243 : 0 ≤ Xi T15 904 16 ∧ Xi T15 904 16 ≤ 16 := hHT15.c _ _
      have w244 : 0 ≤ Xi T15 904 19 ∧ Xi T15 904 19 ≤ 24 := hHT15.c _ _
      have w245 : -1 ≤ Xi T15 904 60 ∧ Xi T15 904 60 ≤ 23 := hHT15.c _ _
      have w246 : 0 ≤ Xi T15 904 61 ∧ Xi T15 904 61 ≤ 5001 := hHT15.c _ _
      have w247 : 0 ≤ Xi T15 904 62 ∧ Xi T15 904 62 ≤ 9 := hHT15.c _ _
      have w248 : 0 ≤ Xi T15 904 8 ∧ Xi T15 904 8 ≤ 5010 := hHT15.c _ _
      refine l_aload_n rfl rfl ?_
      refine l_gfi rfl rfl rfl rfl rfl ?_
      refine l_istore_n rfl rfl rfl ?_
      refine l_aload_n rfl rfl ?_
      refine l_iload_n rfl rfl ?_
      have w249 : 0 ≤ Xi T15 904 105 ∧ Xi T15 904 105 ≤ 5000 := hHT15.c _ _
      have w250 : 0 ≤ Xi T15 904 106 ∧ Xi T15 904 106 ≤ 9 := hHT15.c _ _
      have w256 : 0 ≤ Xi T15 904 65 ∧ Xi T15 904 65 ≤ 1 := hHT15.c _ _
      have w257 : 0 ≤ Xi T15 904 66 ∧ Xi T15 904 66 ≤ 5010 := hHT15.c _ _
      have w258 : 0 ≤ Xi T15 904 70 ∧ Xi T15 904 70 ≤ 20 := hHT15.c _ _
      have w260 : 0 ≤ Xi T15 904 94 ∧ Xi T15 904 94 ≤ 1700 := hHT15.c _ _
      refine l_callV rfl rfl rfl (t_mo_oddOf__f hHT15 n (Xi T15 904 8) ⟨by omega, by omega⟩ (by first | assumption | exact (TK_FR hFT15 rfl (by assumption : TK S _))) (by omega) _) ?_
      rintro _ _ ⟨rfl, z262, rfl, w262, w261, o63⟩
      show Rl _ _ _ _ _ [iv z262] _ _
      have O63 : Hid (ODD7 T15 ((Xi T15 904 8)) z262) := o63
      clear o63
      have R63 : Hid (RP7 n T15) := ⟨hHT15, TK_FR hFT15 rfl hT, TXK_FR hFT15 rfl hK, ⟨TXM56, WYM56, LXM56, LCN56, ABV56, DCM56, VTM56, VCN56, WYD56, RDT56, AKR56, by omega, by omega⟩, PF56, BD56, by omega, by omega, by omega, by omega⟩
      refine l_istore_n rfl rfl rfl ?_
      refine l_aload_n rfl rfl ?_
      refine l_callV rfl rfl rfl (t_mo_sentence__b hHT15 n (by first | assumption | exact (TK_FR hFT15 rfl (by assumption : TK S _))) (by first | assumption | omega) (by omega) (by first | assumption | exact (by assumption : PF T15)) (by first | assumption | exact (by assumption : BDA T15)) _) ?_
      rintro _ T16 ⟨hHT16, w278, rfl, m68, a68, v68, q68, tv68, pv68, b68, c68, dot68, w68, d68, w275, w276, fp68, f268, f368⟩
      have hFT16 : FR md_mo_readStory__t S T16 := FR.tr hFT15 w278 rfl
      show Rl _ _ _ _ _ [] _ _
      have N68 : Hid (SNB n T15 T16) := ⟨hHT16, (by assumption : FR md_mo_sentence__b T15 T16), m68, a68, v68, q68, fun q => ⟨fun a b => tv68 q b a, fun a b => pv68 q b a, fun a b => b68 q b a, fun a => w68 q a, fun a => d68 q a⟩, c68, dot68, fp68, f268, f368⟩
      clear fp68 f268 f368
      have P68 : Xi T16 904 65 = 0 → AP9 T16 n := fun q => ⟨fun a b => tv68 q b a, fun a b => pv68 q b a, fun a b => b68 q b a, fun a => w68 q a, fun a => d68 q a⟩
      have D68 : Xi T16 904 65 = 0 → Xi T16 904 70 ≠ 0 → Xi S 907 (Xi T16 904 8 - 1).toNat = 46 := fun q a => by have t := dot68 q a; rw [(hFT15.cx 907 rfl _).1] at t; exact t
      clear tv68 pv68 b68 w68 d68 dot68
      refine l_iload_n rfl rfl ?_
      refine l_iconst rfl ?_
      refine l_icmp_eq rfl rfl (by unfold rg; omega) (by unfold rg; omega) (fun w279 => ?_) (fun w280 => ?_)
      · refine l_aload_n rfl rfl ?_
        refine l_gfi rfl rfl rfl rfl rfl ?_
        have w281 : 0 ≤ (Xi T16 904 65) ∧ (Xi T16 904 65) ≤ 1 := hHT16.c _ _
        refine l_if_eq rfl rfl (by unfold rg; omega) (fun w282 => ?_) (fun w283 => ?_)
        · refine l_aload_n rfl rfl ?_
          refine l_gfi rfl rfl rfl rfl rfl ?_
          have w284 : 0 ≤ (Xi T16 904 8) ∧ (Xi T16 904 8) ≤ 5010 := hHT16.c _ _
          refine l_istore_n rfl rfl rfl ?_
          have w285 : Xi T16 904 105 = Xi T15 904 105 := (show Xi T16 904 105 = Xi T15 904 105 from w278.x _ _ rfl)
          have w287 : Xi T16 904 106 = Xi T15 904 106 := (show Xi T16 904 106 = Xi T15 904 106 from w278.x _ _ rfl)
          have w289 : Xi T16 904 16 = Xi T15 904 16 := (show Xi T16 904 16 = Xi T15 904 16 from w278.x _ _ rfl)
          have w291 : Xi T16 904 19 = Xi T15 904 19 := (show Xi T16 904 19 = Xi T15 904 19 from w278.x _ _ rfl)
          have w293 : Xi T16 904 60 = Xi T15 904 60 := (show Xi T16 904 60 = Xi T15 904 60 from w278.x _ _ rfl)
          have w295 : Xi T16 904 61 = Xi T15 904 61 := (show Xi T16 904 61 = Xi T15 904 61 from w278.x _ _ rfl)
          have w297 : Xi T16 904 62 = Xi T15 904 62 := (show Xi T16 904 62 = Xi T15 904 62 from w278.x _ _ rfl)
          have w299 : 0 ≤ Xi T16 904 65 ∧ Xi T16 904 65 ≤ 1 := hHT16.c _ _
          have w300 : 0 ≤ Xi T16 904 66 ∧ Xi T16 904 66 ≤ 5010 := hHT16.c _ _
          have w301 : 0 ≤ Xi T16 904 70 ∧ Xi T16 904 70 ≤ 20 := hHT16.c _ _
          have w302 : 0 ≤ Xi T16 904 8 ∧ Xi T16 904 8 ≤ 5010 := hHT16.c _ _
          have w303 : 0 ≤ Xi T16 904 94 ∧ Xi T16 904 94 ≤ 1700 := hHT16.c _ _
          exact Rl_weak (C119 T16 hHT16 hFT16 ((Xi T15 904 8)) ((Xi T16 904 8)) (by omega) (by omega) (by first | assumption | exact (TXM_FR w278 rfl (by assumption : TXM T15))) (by first | assumption | exact (WYM_FR w278 rfl (by assumption : WYM T15))) (by first | assumption | exact (LXM_FR w278 rfl (by assumption : LXM T15))) (by first | assumption | exact (LCN_FR w278 rfl (by assumption : LCN T15))) (by first | assumption | exact (ABV_FR w278 rfl (by assumption : ABV T15))) (by first | assumption | exact (DCM_FR w278 rfl (by assumption : DCM T15))) (by first | assumption | exact (VTM_FR w278 rfl (by assumption : VTM T15))) (by first | assumption | exact (VCN_FR w278 rfl (by assumption : VCN T15))) (by first | assumption | exact (WYD_FR w278 rfl (by assumption : WYD T15))) (by first | assumption | exact (RDT_FR hHT15 w278 rfl rfl rfl (by assumption : RDT T15))) (by first | assumption | exact (AKR_FR w278 rfl (by assumption : AKR T15))) (by omega) (by omega) (by omega) (by omega) (by omega) (by omega) (by omega) (by omega) (by omega) (by omega) (by first | assumption | exact (by assumption : RNV T16 _)) (q68 (by omega)) (P68 (by omega)) (fun a => D68 (by omega) a) (by first | assumption | exact (by assumption : PF T16)) (by first | assumption | exact (by assumption : BDA T16)) (by obtain ⟨k, hk⟩ := tr56.o; exact ⟨_, k, hk, R63.o, by omega, by rw [show (-1 : Int) = z262 by omega]; exact O63.o, N68.o⟩) (by omega)) (And.intro rfl (And.intro rfl (And.intro rfl (True.intro))))
        · refine l_aload_n rfl rfl ?_
          refine l_iconst rfl ?_
          refine l_aload_n rfl rfl ?_
          refine l_gfr rfl rfl rfl rfl rfl (hHT16.r 904 5 908 rfl) ?_
          refine l_aload_n rfl rfl ?_
          refine l_gfi rfl rfl rfl rfl rfl ?_
          have w304 : 0 ≤ (Xi T16 904 66) ∧ (Xi T16 904 66) ≤ 5010 := hHT16.c _ _
          have e104 : Xi T16 904 66 ≤ 5001 := (by first | assumption | exact (by assumption : BDA T16) : BDA T16)
          refine l_iaload (n := 5002) rfl rfl (by omega) (by omega) (by unfold rg; omega) ?_
          have w305 : 0 ≤ (Xi T16 908 (((Xi T16 904 66)).toNat)) ∧ (Xi T16 908 (((Xi T16 904 66)).toNat)) ≤ 5000 := hHT16.c _ _
          have e107 : Xi T16 904 66 ≤ 5001 := (by first | assumption | exact (by assumption : BDA T16) : BDA T16)
          have w306 : Xi T16 904 105 = Xi T15 904 105 := (show Xi T16 904 105 = Xi T15 904 105 from w278.x _ _ rfl)
          have w308 : Xi T16 904 106 = Xi T15 904 106 := (show Xi T16 904 106 = Xi T15 904 106 from w278.x _ _ rfl)
          have w310 : Xi T16 904 16 = Xi T15 904 16 := (show Xi T16 904 16 = Xi T15 904 16 from w278.x _ _ rfl)
          have w312 : Xi T16 904 19 = Xi T15 904 19 := (show Xi T16 904 19 = Xi T15 904 19 from w278.x _ _ rfl)
          have w314 : Xi T16 904 60 = Xi T15 904 60 := (show Xi T16 904 60 = Xi T15 904 60 from w278.x _ _ rfl)
          have w316 : Xi T16 904 61 = Xi T15 904 61 := (show Xi T16 904 61 = Xi T15 904 61 from w278.x _ _ rfl)
          have w318 : Xi T16 904 62 = Xi T15 904 62 := (show Xi T16 904 62 = Xi T15 904 62 from w278.x _ _ rfl)
          have w320 : 0 ≤ Xi T16 904 65 ∧ Xi T16 904 65 ≤ 1 := hHT16.c _ _
          have w321 : 0 ≤ Xi T16 904 66 ∧ Xi T16 904 66 ≤ 5010 := hHT16.c _ _
          have w322 : 0 ≤ Xi T16 904 70 ∧ Xi T16 904 70 ≤ 20 := hHT16.c _ _
          have w323 : 0 ≤ Xi T16 904 8 ∧ Xi T16 904 8 ≤ 5010 := hHT16.c _ _
          have w324 : 0 ≤ Xi T16 904 94 ∧ Xi T16 904 94 ≤ 1700 := hHT16.c _ _
          refine l_callV rfl rfl rfl (t_mo_failed__b hHT16 2 (Xi T16 908 (((Xi T16 904 66)).toNat)) ⟨by omega, by omega⟩ ⟨by omega, by omega⟩ _) ?_
          rintro _ T17 ⟨hHT17, w326, rfl, p108, q108⟩
          have hFT17 : FR md_mo_readStory__t S T17 := FR.tr hFT16 w326 rfl
          show Rl _ _ _ _ _ [] _ _
          have G108 : Hid (RY7 n S T17) := rty_s tr56.o (rss_2 R63.o (f := (Xi T15 904 8)) (by first | rfl | omega) (by rw [show (-1 : Int) = z262 by omega]; exact O63.o) N68.o (by omega) ⟨(by assumption : FR md_mo_failed__b T16 T17), hHT17, p108, q108⟩)
          refine l_goto rfl rfl ?_
          refine l_goto rfl rfl ?_
          have w327 : Xi T17 904 105 = Xi T15 904 105 := (show Xi T17 904 105 = Xi T16 904 105 from w326.x _ _ rfl).trans ((show Xi T16 904 105 = Xi T15 904 105 from w278.x _ _ rfl))
          have w329 : Xi T17 904 106 = Xi T15 904 106 := (show Xi T17 904 106 = Xi T16 904 106 from w326.x _ _ rfl).trans ((show Xi T16 904 106 = Xi T15 904 106 from w278.x _ _ rfl))
          have w331 : Xi T17 904 16 = Xi T15 904 16 := (show Xi T17 904 16 = Xi T16 904 16 from w326.x _ _ rfl).trans ((show Xi T16 904 16 = Xi T15 904 16 from w278.x _ _ rfl))
          have w333 : Xi T17 904 19 = Xi T15 904 19 := (show Xi T17 904 19 = Xi T16 904 19 from w326.x _ _ rfl).trans ((show Xi T16 904 19 = Xi T15 904 19 from w278.x _ _ rfl))
          have w335 : Xi T17 904 60 = Xi T15 904 60 := (show Xi T17 904 60 = Xi T16 904 60 from w326.x _ _ rfl).trans ((show Xi T16 904 60 = Xi T15 904 60 from w278.x _ _ rfl))
          have w337 : Xi T17 904 61 = Xi T15 904 61 := (show Xi T17 904 61 = Xi T16 904 61 from w326.x _ _ rfl).trans ((show Xi T16 904 61 = Xi T15 904 61 from w278.x _ _ rfl))
          have w339 : 0 ≤ Xi T17 904 62 ∧ Xi T17 904 62 ≤ 9 := hHT17.c _ _
          have w340 : Xi T17 904 65 = Xi T16 904 65 := (show Xi T17 904 65 = Xi T16 904 65 from w326.x _ _ rfl)
          have w342 : Xi T17 904 66 = Xi T16 904 66 := (show Xi T17 904 66 = Xi T16 904 66 from w326.x _ _ rfl)
          have w344 : Xi T17 904 70 = Xi T16 904 70 := (show Xi T17 904 70 = Xi T16 904 70 from w326.x _ _ rfl)
          have w346 : Xi T17 904 8 = Xi T16 904 8 := (show Xi T17 904 8 = Xi T16 904 8 from w326.x _ _ rfl)
          have w348 : Xi T17 904 94 = Xi T16 904 94 := (show Xi T17 904 94 = Xi T16 904 94 from w326.x _ _ rfl)
          exact Rl_weak (ih36 _ (by omega) T17 hHT17 hFT17  (by first | exact fun q => absurd q (by omega) | exact fun _ => ⟨by first | assumption | exact (TXM_FR w326 rfl (TXM_FR w278 rfl (by assumption : TXM T15))), by first | assumption | exact (WYM_FR w326 rfl (WYM_FR w278 rfl (by assumption : WYM T15))), by first | assumption | exact (LXM_FR w326 rfl (LXM_FR w278 rfl (by assumption : LXM T15))), by first | assumption | exact (LCN_FR w326 rfl (LCN_FR w278 rfl (by assumption : LCN T15))), by first | assumption | exact (ABV_FR w326 rfl (ABV_FR w278 rfl (by assumption : ABV T15))), by first | assumption | exact (DCM_FR w326 rfl (DCM_FR w278 rfl (by assumption : DCM T15))), by first | assumption | exact (VTM_FR w326 rfl (VTM_FR w278 rfl (by assumption : VTM T15))), by first | assumption | exact (VCN_FR w326 rfl (VCN_FR w278 rfl (by assumption : VCN T15))), by first | assumption | exact (WYD_FR w326 rfl (WYD_FR w278 rfl (by assumption : WYD T15))), by first | assumption | exact (RDT_FR hHT16 w326 rfl rfl rfl (RDT_FR hHT15 w278 rfl rfl rfl (by assumption : RDT T15))), by first | assumption | exact (AKR_FR w326 rfl (AKR_FR w278 rfl (by assumption : AKR T15))), by omega, by omega⟩ | exact fun _ => (by obtain ⟨a1, a2, a3, a4, a5, a6, a7, a8, a9, a10, a11, a12, a13⟩ := hI; exact ⟨TXM_FR hFT17 rfl a1, WYM_FR hFT17 rfl a2, LXM_FR hFT17 rfl a3, LCN_FR hFT17 rfl a4, ABV_FR hFT17 rfl a5, DCM_FR hFT17 rfl a6, VTM_FR hFT17 rfl a7, VCN_FR hFT17 rfl a8, WYD_FR hFT17 rfl a9, RDT_FR hH hFT17 rfl rfl rfl a10, AKR_FR hFT17 rfl a11, by omega, by omega⟩)) (by first | assumption | exact (ABV_FR w326 rfl (ABV_FR w278 rfl (by assumption : ABV T15)))) (by first | assumption | exact (WYM_FR w326 rfl (WYM_FR w278 rfl (by assumption : WYM T15)))) (by omega) (by omega) (by first | assumption | exact (PF_FR w326 rfl (by assumption : PF T16))) (by first | assumption | exact (BDA_FR w326 rfl (by assumption : BDA T16))) (by first | exact G84 | exact G108 | exact G167 | exact rty_0 (by omega) eZ | exact rty_1 (by omega) eZ F33.o) rfl) (And.intro rfl (True.intro))
      · refine l_aload_n rfl rfl ?_
        refine l_iconst rfl ?_
        refine l_aload_n rfl rfl ?_
        refine l_gfr rfl rfl rfl rfl rfl (hHT16.r 904 5 908 rfl) ?_
        refine l_iload_n rfl rfl ?_
        refine l_iaload (n := 5002) rfl rfl (by omega) (by omega) (by unfold rg; omega) ?_
        have w350 : 0 ≤ (Xi T16 908 ((z262).toNat)) ∧ (Xi T16 908 ((z262).toNat)) ≤ 5000 := hHT16.c _ _
        have w351 : Xi T16 904 105 = Xi T15 904 105 := (show Xi T16 904 105 = Xi T15 904 105 from w278.x _ _ rfl)
        have w353 : Xi T16 904 106 = Xi T15 904 106 := (show Xi T16 904 106 = Xi T15 904 106 from w278.x _ _ rfl)
        have w355 : Xi T16 904 16 = Xi T15 904 16 := (show Xi T16 904 16 = Xi T15 904 16 from w278.x _ _ rfl)
        have w357 : Xi T16 904 19 = Xi T15 904 19 := (show Xi T16 904 19 = Xi T15 904 19 from w278.x _ _ rfl)
        have w359 : Xi T16 904 60 = Xi T15 904 60 := (show Xi T16 904 60 = Xi T15 904 60 from w278.x _ _ rfl)
        have w361 : Xi T16 904 61 = Xi T15 904 61 := (show Xi T16 904 61 = Xi T15 904 61 from w278.x _ _ rfl)
        have w363 : Xi T16 904 62 = Xi T15 904 62 := (show Xi T16 904 62 = Xi T15 904 62 from w278.x _ _ rfl)
        have w365 : 0 ≤ Xi T16 904 65 ∧ Xi T16 904 65 ≤ 1 := hHT16.c _ _
        have w366 : 0 ≤ Xi T16 904 66 ∧ Xi T16 904 66 ≤ 5010 := hHT16.c _ _
        have w367 : 0 ≤ Xi T16 904 70 ∧ Xi T16 904 70 ≤ 20 := hHT16.c _ _
        have w368 : 0 ≤ Xi T16 904 8 ∧ Xi T16 904 8 ≤ 5010 := hHT16.c _ _
        have w369 : 0 ≤ Xi T16 904 94 ∧ Xi T16 904 94 ≤ 1700 := hHT16.c _ _
        refine l_callV rfl rfl rfl (t_mo_failed__b hHT16 1 (Xi T16 908 ((z262).toNat)) ⟨by omega, by omega⟩ ⟨by omega, by omega⟩ _) ?_
        rintro _ T18 ⟨hHT18, w371, rfl, p84, q84⟩
        have hFT18 : FR md_mo_readStory__t S T18 := FR.tr hFT16 w371 rfl
        show Rl _ _ _ _ _ [] _ _
        have G84 : Hid (RY7 n S T18) := rty_s tr56.o (rss_1 R63.o (f := (Xi T15 904 8)) (by first | rfl | omega) O63.o (by omega) N68.o ⟨(by assumption : FR md_mo_failed__b T16 T18), hHT18, p84, q84⟩)
        refine l_goto rfl rfl ?_
        refine l_goto rfl rfl ?_
        have w372 : Xi T18 904 105 = Xi T15 904 105 := (show Xi T18 904 105 = Xi T16 904 105 from w371.x _ _ rfl).trans ((show Xi T16 904 105 = Xi T15 904 105 from w278.x _ _ rfl))
        have w374 : Xi T18 904 106 = Xi T15 904 106 := (show Xi T18 904 106 = Xi T16 904 106 from w371.x _ _ rfl).trans ((show Xi T16 904 106 = Xi T15 904 106 from w278.x _ _ rfl))
        have w376 : Xi T18 904 16 = Xi T15 904 16 := (show Xi T18 904 16 = Xi T16 904 16 from w371.x _ _ rfl).trans ((show Xi T16 904 16 = Xi T15 904 16 from w278.x _ _ rfl))
        have w378 : Xi T18 904 19 = Xi T15 904 19 := (show Xi T18 904 19 = Xi T16 904 19 from w371.x _ _ rfl).trans ((show Xi T16 904 19 = Xi T15 904 19 from w278.x _ _ rfl))
        have w380 : Xi T18 904 60 = Xi T15 904 60 := (show Xi T18 904 60 = Xi T16 904 60 from w371.x _ _ rfl).trans ((show Xi T16 904 60 = Xi T15 904 60 from w278.x _ _ rfl))
        have w382 : Xi T18 904 61 = Xi T15 904 61 := (show Xi T18 904 61 = Xi T16 904 61 from w371.x _ _ rfl).trans ((show Xi T16 904 61 = Xi T15 904 61 from w278.x _ _ rfl))
        have w384 : 0 ≤ Xi T18 904 62 ∧ Xi T18 904 62 ≤ 9 := hHT18.c _ _
        have w385 : Xi T18 904 65 = Xi T16 904 65 := (show Xi T18 904 65 = Xi T16 904 65 from w371.x _ _ rfl)
        have w387 : Xi T18 904 66 = Xi T16 904 66 := (show Xi T18 904 66 = Xi T16 904 66 from w371.x _ _ rfl)
        have w389 : Xi T18 904 70 = Xi T16 904 70 := (show Xi T18 904 70 = Xi T16 904 70 from w371.x _ _ rfl)
        have w391 : Xi T18 904 8 = Xi T16 904 8 := (show Xi T18 904 8 = Xi T16 904 8 from w371.x _ _ rfl)
        have w393 : Xi T18 904 94 = Xi T16 904 94 := (show Xi T18 904 94 = Xi T16 904 94 from w371.x _ _ rfl)
        exact Rl_weak (ih36 _ (by omega) T18 hHT18 hFT18  (by first | exact fun q => absurd q (by omega) | exact fun _ => ⟨by first | assumption | exact (TXM_FR w371 rfl (TXM_FR w278 rfl (by assumption : TXM T15))), by first | assumption | exact (WYM_FR w371 rfl (WYM_FR w278 rfl (by assumption : WYM T15))), by first | assumption | exact (LXM_FR w371 rfl (LXM_FR w278 rfl (by assumption : LXM T15))), by first | assumption | exact (LCN_FR w371 rfl (LCN_FR w278 rfl (by assumption : LCN T15))), by first | assumption | exact (ABV_FR w371 rfl (ABV_FR w278 rfl (by assumption : ABV T15))), by first | assumption | exact (DCM_FR w371 rfl (DCM_FR w278 rfl (by assumption : DCM T15))), by first | assumption | exact (VTM_FR w371 rfl (VTM_FR w278 rfl (by assumption : VTM T15))), by first | assumption | exact (VCN_FR w371 rfl (VCN_FR w278 rfl (by assumption : VCN T15))), by first | assumption | exact (WYD_FR w371 rfl (WYD_FR w278 rfl (by assumption : WYD T15))), by first | assumption | exact (RDT_FR hHT16 w371 rfl rfl rfl (RDT_FR hHT15 w278 rfl rfl rfl (by assumption : RDT T15))), by first | assumption | exact (AKR_FR w371 rfl (AKR_FR w278 rfl (by assumption : AKR T15))), by omega, by omega⟩ | exact fun _ => (by obtain ⟨a1, a2, a3, a4, a5, a6, a7, a8, a9, a10, a11, a12, a13⟩ := hI; exact ⟨TXM_FR hFT18 rfl a1, WYM_FR hFT18 rfl a2, LXM_FR hFT18 rfl a3, LCN_FR hFT18 rfl a4, ABV_FR hFT18 rfl a5, DCM_FR hFT18 rfl a6, VTM_FR hFT18 rfl a7, VCN_FR hFT18 rfl a8, WYD_FR hFT18 rfl a9, RDT_FR hH hFT18 rfl rfl rfl a10, AKR_FR hFT18 rfl a11, by omega, by omega⟩)) (by first | assumption | exact (ABV_FR w371 rfl (ABV_FR w278 rfl (by assumption : ABV T15)))) (by first | assumption | exact (WYM_FR w371 rfl (WYM_FR w278 rfl (by assumption : WYM T15)))) (by omega) (by omega) (by first | assumption | exact (PF_FR w371 rfl (by assumption : PF T16))) (by first | assumption | exact (BDA_FR w371 rfl (by assumption : BDA T16))) (by first | exact G84 | exact G108 | exact G167 | exact rty_0 (by omega) eZ | exact rty_1 (by omega) eZ F33.o) rfl) (And.intro rfl (True.intro))
    refine l_aload_n rfl rfl ?_
    refine l_gfi rfl rfl rfl rfl rfl ?_
    refine l_if_ne rfl rfl (by unfold rg; omega) (fun w395 => ?_) (fun w396 => ?_)
    · refine l_return rfl rfl ?_
      exact ⟨hHT1, hFT1, rfl, (A36), (B36), (W36), (PF36), (BD36), (⟨tr36.o, fun q => by omega⟩)⟩
    · refine l_aload_n rfl rfl ?_
      have t43 := A36 (by omega)
      have i43a : Xi T1 904 60 < Xi T1 904 19 := t43.2.2.2.2.2.2.2.2.2.2.2.1
      have i43b : 2 ≤ Xi T1 904 16 := t43.2.2.2.2.2.2.2.2.2.2.2.2
      refine l_gfr rfl rfl rfl rfl rfl (hHT1.r 904 4 907 rfl) ?_
      refine l_aload_n rfl rfl ?_
      refine l_gfi rfl rfl rfl rfl rfl ?_
      refine l_iaload (n := 5002) rfl rfl (by omega) (by omega) (by unfold rg; omega) ?_
      have w409 : 0 ≤ (Xi T1 907 (((Xi T1 904 8)).toNat)) ∧ (Xi T1 907 (((Xi T1 904 8)).toNat)) ≤ 154 := hHT1.c _ _
      refine l_iconst rfl ?_
      refine l_icmp_eq rfl rfl (by unfold rg; omega) (by unfold rg; omega) (fun w410 => ?_) (fun w411 => ?_)
      · refine l_return rfl rfl ?_
        exact ⟨hHT1, hFT1, rfl, (A36), (B36), (W36), (PF36), (BD36), (⟨tr36.o, fun q => by omega⟩)⟩
      · have w424 : 0 ≤ Xi T1 904 105 ∧ Xi T1 904 105 ≤ 5000 := hHT1.c _ _
        have w425 : 0 ≤ Xi T1 904 106 ∧ Xi T1 904 106 ≤ 9 := hHT1.c _ _
        have w426 : 0 ≤ Xi T1 904 16 ∧ Xi T1 904 16 ≤ 16 := hHT1.c _ _
        have w427 : 0 ≤ Xi T1 904 19 ∧ Xi T1 904 19 ≤ 24 := hHT1.c _ _
        have w428 : -1 ≤ Xi T1 904 60 ∧ Xi T1 904 60 ≤ 23 := hHT1.c _ _
        have w431 : 0 ≤ Xi T1 904 65 ∧ Xi T1 904 65 ≤ 1 := hHT1.c _ _
        have w432 : 0 ≤ Xi T1 904 66 ∧ Xi T1 904 66 ≤ 5010 := hHT1.c _ _
        have w433 : 0 ≤ Xi T1 904 70 ∧ Xi T1 904 70 ≤ 20 := hHT1.c _ _
        have w435 : 0 ≤ Xi T1 904 94 ∧ Xi T1 904 94 ≤ 1700 := hHT1.c _ _
        exact Rl_weak (C56 T1 hHT1 hFT1  ((A36 (by omega)).1) ((A36 (by omega)).2.1) ((A36 (by omega)).2.2.1) ((A36 (by omega)).2.2.2.1) ((A36 (by omega)).2.2.2.2.1) ((A36 (by omega)).2.2.2.2.2.1) ((A36 (by omega)).2.2.2.2.2.2.1) ((A36 (by omega)).2.2.2.2.2.2.2.1) ((A36 (by omega)).2.2.2.2.2.2.2.2.1) ((A36 (by omega)).2.2.2.2.2.2.2.2.2.1) ((A36 (by omega)).2.2.2.2.2.2.2.2.2.2.1) (by omega) (by omega) (by omega) (by omega) (by omega) (by omega) (by first | assumption | exact (by assumption : PF T1)) (by first | assumption | exact (by assumption : BDA T1)) (rty_k tr36.o (by omega)) (by omega)) (And.intro rfl (True.intro))
set_option maxRecDepth 100000 in
set_option maxHeartbeats 8000000 in
theorem t_mo_readStory__t {S : sS} (hH : HI S) (n : Nat) (hT : TK S n) (hK : TXK S n) (hI : TIX S) (hPF : PF S) (hBDA : BDA S) (d : Nat) : Mt lay0 (d + 14) m_mo_readStory [.ref 904] S (Q_mo_readStory__t S n) := by
  refine Mt_R rfl rfl ?_
  have C36 := c36_mo_readStory__t hH n hT hK hI hPF hBDA d 
  have hF : FR md_mo_readStory__t S S := FR.rf
  have w1 : 0 ≤ Xi S 904 16 ∧ Xi S 904 16 ≤ 16 := hH.c _ _
  have w2 : 0 ≤ Xi S 904 19 ∧ Xi S 904 19 ≤ 24 := hH.c _ _
  have w3 : -1 ≤ Xi S 904 60 ∧ Xi S 904 60 ≤ 23 := hH.c _ _
  have w4 : 0 ≤ Xi S 904 61 ∧ Xi S 904 61 ≤ 5001 := hH.c _ _
  have w5 : 0 ≤ Xi S 904 62 ∧ Xi S 904 62 ≤ 9 := hH.c _ _
  have w6 : 0 ≤ Xi S 904 65 ∧ Xi S 904 65 ≤ 1 := hH.c _ _
  have w7 : 0 ≤ Xi S 904 70 ∧ Xi S 904 70 ≤ 20 := hH.c _ _
  have w8 : 0 ≤ Xi S 904 8 ∧ Xi S 904 8 ≤ 5010 := hH.c _ _
  have w9 : 0 ≤ Xi S 904 94 ∧ Xi S 904 94 ≤ 1700 := hH.c _ _
  have hn5 := hT.1
  have h_TXM : TXM S := hI.1
  have h_WYM : WYM S := hI.2.1
  have h_LXM : LXM S := hI.2.2.1
  have h_LCN : LCN S := hI.2.2.2.1
  have h_ABV : ABV S := hI.2.2.2.2.1
  have h_DCM : DCM S := hI.2.2.2.2.2.1
  have h_VTM : VTM S := hI.2.2.2.2.2.2.1
  have h_VCN : VCN S := hI.2.2.2.2.2.2.2.1
  have h_WYD : WYD S := hI.2.2.2.2.2.2.2.2.1
  have h_RDT : RDT S := hI.2.2.2.2.2.2.2.2.2.1
  have h_AKR : AKR S := hI.2.2.2.2.2.2.2.2.2.2.1
  have hi12 : Xi S 904 60 < Xi S 904 19 := hI.2.2.2.2.2.2.2.2.2.2.2.1
  have hi13 : 2 ≤ Xi S 904 16 := hI.2.2.2.2.2.2.2.2.2.2.2.2
  refine l_aload_n rfl rfl ?_
  refine l_iconst rfl ?_
  refine l_pfi rfl rfl rfl rfl ?_
  obtain ⟨U19, eU19⟩ : ∃ T : sS, T = uI S 904 62 (Int32.ofInt 0) := ⟨_, rfl⟩
  rw [← eU19]
  have hHU19 : HI U19 := by rw [eU19]; exact HI_w hH (show 0 ≤ 0 by omega) (show 0 ≤ 9 by omega)
  have hFU19 : FR md_mo_readStory__t S U19 := by rw [eU19]; exact FR.wI hF (mdf_i (r := (904, 905, 62, 63)) (List.mem_of_getElem? (i := 15) rfl) (inR_i (by omega) (by omega) (by omega) (by omega)))
  have w436 : Xi U19 904 62 = 0 := by rw [eU19]; exact Xi_same (by unfold rg; omega)
  refine l_aload_n rfl rfl ?_
  refine l_iconst rfl ?_
  refine l_pfi rfl rfl rfl rfl ?_
  obtain ⟨U20, eU20⟩ : ∃ T : sS, T = uI U19 904 61 (Int32.ofInt 0) := ⟨_, rfl⟩
  rw [← eU20]
  have hHU20 : HI U20 := by rw [eU20]; exact HI_w hHU19 (show 0 ≤ 0 by omega) (show 0 ≤ 5001 by omega)
  have hFU20 : FR md_mo_readStory__t S U20 := by rw [eU20]; exact FR.wI hFU19 (mdf_i (r := (904, 905, 61, 62)) (List.mem_of_getElem? (i := 14) rfl) (inR_i (by omega) (by omega) (by omega) (by omega)))
  have w437 : Xi U20 904 61 = 0 := by rw [eU20]; exact Xi_same (by unfold rg; omega)
  refine l_aload_n rfl rfl ?_
  refine l_iconst rfl ?_
  refine l_pfi rfl rfl rfl rfl ?_
  obtain ⟨U21, eU21⟩ : ∃ T : sS, T = uI U20 904 8 (Int32.ofInt 0) := ⟨_, rfl⟩
  rw [← eU21]
  have hHU21 : HI U21 := by rw [eU21]; exact HI_w hHU20 (show 0 ≤ 0 by omega) (show 0 ≤ 5010 by omega)
  have hFU21 : FR md_mo_readStory__t S U21 := by rw [eU21]; exact FR.wI hFU20 (mdf_i (r := (904, 905, 8, 9)) (List.mem_of_getElem? (i := 0) rfl) (inR_i (by omega) (by omega) (by omega) (by omega)))
  have w438 : Xi U21 904 8 = 0 := by rw [eU21]; exact Xi_same (by unfold rg; omega)
  have eZ : U21 = rs0 S := by have a := eU21; have b := eU20; have c := eU19; rw [a, b, c]; rfl
  refine l_aload_n rfl rfl ?_
  refine l_gfr rfl rfl rfl rfl rfl (hHU21.r 904 4 907 rfl) ?_
  refine l_iconst rfl ?_
  refine l_iaload (n := 5002) rfl rfl (by omega) (by omega) (by unfold rg; omega) ?_
  have w439 : 0 ≤ (Xi U21 907 ((0 : Int).toNat)) ∧ (Xi U21 907 ((0 : Int).toNat)) ≤ 154 := hHU21.c _ _
  have w440 : (Xi U21 907 ((0 : Int).toNat)) = Xi U21 907 0 := rfl
  have t20 : (Xi U21 907 ((0 : Int).toNat)) = Xi S 907 0 := by first | rfl | exact (hFU21.cx 907 rfl _).1
  refine l_iconst rfl ?_
  refine l_icmp_ne rfl rfl (by unfold rg; omega) (by unfold rg; omega) (fun w441 => ?_) (fun w442 => ?_)
  · have w443 : Xi U21 904 105 = Xi S 904 105 := (show Xi U21 904 105 = Xi U20 904 105 from by rw [eU21]; exact Xi_ne (by omega)).trans ( (show Xi U20 904 105 = Xi U19 904 105 from by rw [eU20]; exact Xi_ne (by omega)).trans ((show Xi U19 904 105 = Xi S 904 105 from by rw [eU19]; exact Xi_ne (by omega))))
    have w444 : 0 ≤ Xi S 904 105 ∧ Xi S 904 105 ≤ 5000 := hH.c _ _
    have w445 : Xi U21 904 106 = Xi S 904 106 := (show Xi U21 904 106 = Xi U20 904 106 from by rw [eU21]; exact Xi_ne (by omega)).trans ( (show Xi U20 904 106 = Xi U19 904 106 from by rw [eU20]; exact Xi_ne (by omega)).trans ((show Xi U19 904 106 = Xi S 904 106 from by rw [eU19]; exact Xi_ne (by omega))))
    have w446 : 0 ≤ Xi S 904 106 ∧ Xi S 904 106 ≤ 9 := hH.c _ _
    have w447 : Xi U21 904 16 = Xi S 904 16 := (show Xi U21 904 16 = Xi U20 904 16 from by rw [eU21]; exact Xi_ne (by omega)).trans ( (show Xi U20 904 16 = Xi U19 904 16 from by rw [eU20]; exact Xi_ne (by omega)).trans ((show Xi U19 904 16 = Xi S 904 16 from by rw [eU19]; exact Xi_ne (by omega))))
    have w449 : Xi U21 904 19 = Xi S 904 19 := (show Xi U21 904 19 = Xi U20 904 19 from by rw [eU21]; exact Xi_ne (by omega)).trans ( (show Xi U20 904 19 = Xi U19 904 19 from by rw [eU20]; exact Xi_ne (by omega)).trans ((show Xi U19 904 19 = Xi S 904 19 from by rw [eU19]; exact Xi_ne (by omega))))
    have w451 : Xi U21 904 60 = Xi S 904 60 := (show Xi U21 904 60 = Xi U20 904 60 from by rw [eU21]; exact Xi_ne (by omega)).trans ( (show Xi U20 904 60 = Xi U19 904 60 from by rw [eU20]; exact Xi_ne (by omega)).trans ((show Xi U19 904 60 = Xi S 904 60 from by rw [eU19]; exact Xi_ne (by omega))))
    have w453 : Xi U21 904 61 = Xi U20 904 61 := (show Xi U21 904 61 = Xi U20 904 61 from by rw [eU21]; exact Xi_ne (by omega))
    have w454 : 0 ≤ Xi U20 904 61 ∧ Xi U20 904 61 ≤ 5001 := hHU20.c _ _
    have w455 : Xi U21 904 62 = Xi U19 904 62 := (show Xi U21 904 62 = Xi U20 904 62 from by rw [eU21]; exact Xi_ne (by omega)).trans ((show Xi U20 904 62 = Xi U19 904 62 from by rw [eU20]; exact Xi_ne (by omega)))
    have w456 : 0 ≤ Xi U19 904 62 ∧ Xi U19 904 62 ≤ 9 := hHU19.c _ _
    have w457 : Xi U21 904 65 = Xi S 904 65 := (show Xi U21 904 65 = Xi U20 904 65 from by rw [eU21]; exact Xi_ne (by omega)).trans ( (show Xi U20 904 65 = Xi U19 904 65 from by rw [eU20]; exact Xi_ne (by omega)).trans ((show Xi U19 904 65 = Xi S 904 65 from by rw [eU19]; exact Xi_ne (by omega))))
    have w459 : Xi U21 904 66 = Xi S 904 66 := (show Xi U21 904 66 = Xi U20 904 66 from by rw [eU21]; exact Xi_ne (by omega)).trans ( (show Xi U20 904 66 = Xi U19 904 66 from by rw [eU20]; exact Xi_ne (by omega)).trans ((show Xi U19 904 66 = Xi S 904 66 from by rw [eU19]; exact Xi_ne (by omega))))
    have w460 : 0 ≤ Xi S 904 66 ∧ Xi S 904 66 ≤ 5010 := hH.c _ _
    have w461 : Xi U21 904 70 = Xi S 904 70 := (show Xi U21 904 70 = Xi U20 904 70 from by rw [eU21]; exact Xi_ne (by omega)).trans ( (show Xi U20 904 70 = Xi U19 904 70 from by rw [eU20]; exact Xi_ne (by omega)).trans ((show Xi U19 904 70 = Xi S 904 70 from by rw [eU19]; exact Xi_ne (by omega))))
    have w463 : 0 ≤ Xi U21 904 8 ∧ Xi U21 904 8 ≤ 5010 := hHU21.c _ _
    have w464 : Xi U21 904 94 = Xi S 904 94 := (show Xi U21 904 94 = Xi U20 904 94 from by rw [eU21]; exact Xi_ne (by omega)).trans ( (show Xi U20 904 94 = Xi U19 904 94 from by rw [eU20]; exact Xi_ne (by omega)).trans ((show Xi U19 904 94 = Xi S 904 94 from by rw [eU19]; exact Xi_ne (by omega))))
    exact Rl_weak (C36 _ U21 hHU21 hFU21  (by first | exact fun q => absurd q (by omega) | exact fun _ => ⟨by first | assumption | exact (TXM_FR (FR_e eU21) rfl (TXM_FR (FR_e eU20) rfl (TXM_FR (FR_e eU19) rfl (by assumption : TXM S)))), by first | assumption | exact (WYM_FR (FR_e eU21) rfl (WYM_FR (FR_e eU20) rfl (WYM_FR (FR_e eU19) rfl (by assumption : WYM S)))), by first | assumption | exact (LXM_FR (FR_e eU21) rfl (LXM_FR (FR_e eU20) rfl (LXM_FR (FR_e eU19) rfl (by assumption : LXM S)))), by first | assumption | exact (LCN_FR (FR_e eU21) rfl (LCN_FR (FR_e eU20) rfl (LCN_FR (FR_e eU19) rfl (by assumption : LCN S)))), by first | assumption | exact (ABV_FR (FR_e eU21) rfl (ABV_FR (FR_e eU20) rfl (ABV_FR (FR_e eU19) rfl (by assumption : ABV S)))), by first | assumption | exact (DCM_FR (FR_e eU21) rfl (DCM_FR (FR_e eU20) rfl (DCM_FR (FR_e eU19) rfl (by assumption : DCM S)))), by first | assumption | exact (VTM_FR (FR_e eU21) rfl (VTM_FR (FR_e eU20) rfl (VTM_FR (FR_e eU19) rfl (by assumption : VTM S)))), by first | assumption | exact (VCN_FR (FR_e eU21) rfl (VCN_FR (FR_e eU20) rfl (VCN_FR (FR_e eU19) rfl (by assumption : VCN S)))), by first | assumption | exact (WYD_FR (FR_e eU21) rfl (WYD_FR (FR_e eU20) rfl (WYD_FR (FR_e eU19) rfl (by assumption : WYD S)))), by first | assumption | exact (RDT_FR hHU20 (FR_e eU21) rfl rfl rfl (RDT_FR hHU19 (FR_e eU20) rfl rfl rfl (RDT_FR hH (FR_e eU19) rfl rfl rfl (by assumption : RDT S)))), by first | assumption | exact (AKR_FR (FR_e eU21) rfl (AKR_FR (FR_e eU20) rfl (AKR_FR (FR_e eU19) rfl (by assumption : AKR S)))), by omega, by omega⟩ | exact fun _ => (by obtain ⟨a1, a2, a3, a4, a5, a6, a7, a8, a9, a10, a11, a12, a13⟩ := hI; exact ⟨TXM_FR hFU21 rfl a1, WYM_FR hFU21 rfl a2, LXM_FR hFU21 rfl a3, LCN_FR hFU21 rfl a4, ABV_FR hFU21 rfl a5, DCM_FR hFU21 rfl a6, VTM_FR hFU21 rfl a7, VCN_FR hFU21 rfl a8, WYD_FR hFU21 rfl a9, RDT_FR hH hFU21 rfl rfl rfl a10, AKR_FR hFU21 rfl a11, by omega, by omega⟩)) (by first | assumption | exact (ABV_FR (FR_e eU21) rfl (ABV_FR (FR_e eU20) rfl (ABV_FR (FR_e eU19) rfl (by assumption : ABV S))))) (by first | assumption | exact (WYM_FR (FR_e eU21) rfl (WYM_FR (FR_e eU20) rfl (WYM_FR (FR_e eU19) rfl (by assumption : WYM S))))) (by omega) (by omega) (by first | assumption | exact (PF_FR (FR_e eU21) rfl (PF_FR (FR_e eU20) rfl (PF_FR (FR_e eU19) rfl (by assumption : PF S))))) (by first | assumption | exact (BDA_FR (FR_e eU21) rfl (BDA_FR (FR_e eU20) rfl (BDA_FR (FR_e eU19) rfl (by assumption : BDA S))))) (by first | exact G84 | exact G108 | exact G167 | exact rty_0 (by omega) eZ | exact rty_1 (by omega) eZ F33.o) rfl) (And.intro rfl (True.intro))
  · refine l_aload_n rfl rfl ?_
    refine l_iconst rfl ?_
    refine l_aload_n rfl rfl ?_
    refine l_gfr rfl rfl rfl rfl rfl (hHU21.r 904 5 908 rfl) ?_
    refine l_iconst rfl ?_
    refine l_iaload (n := 5002) rfl rfl (by omega) (by omega) (by unfold rg; omega) ?_
    have w466 : 0 ≤ (Xi U21 908 ((0 : Int).toNat)) ∧ (Xi U21 908 ((0 : Int).toNat)) ≤ 5000 := hHU21.c _ _
    have w467 : (Xi U21 908 ((0 : Int).toNat)) = Xi U21 908 0 := rfl
    have w480 : Xi U21 904 62 = Xi U19 904 62 := (show Xi U21 904 62 = Xi U20 904 62 from by rw [eU21]; exact Xi_ne (by omega)).trans ((show Xi U20 904 62 = Xi U19 904 62 from by rw [eU20]; exact Xi_ne (by omega)))
    have w481 : 0 ≤ Xi U19 904 62 ∧ Xi U19 904 62 ≤ 9 := hHU19.c _ _
    refine l_callV rfl rfl rfl (t_mo_failed__b hHU21 2 (Xi U21 908 ((0 : Int).toNat)) ⟨by omega, by omega⟩ ⟨by omega, by omega⟩ _) ?_
    rintro _ T22 ⟨hHT22, w492, rfl, p33, q33⟩
    have hFT22 : FR md_mo_readStory__t S T22 := FR.tr hFU21 w492 rfl
    show Rl _ _ _ _ _ [] _ _
    have F33 : Hid (FLD U21 T22 2 (Xi U21 908 0)) := ⟨(by assumption : FR md_mo_failed__b U21 T22), hHT22, p33, q33⟩
    have w493 : Xi T22 904 105 = Xi S 904 105 := (show Xi T22 904 105 = Xi U21 904 105 from w492.x _ _ rfl).trans ( (show Xi U21 904 105 = Xi U20 904 105 from by rw [eU21]; exact Xi_ne (by omega)).trans ( (show Xi U20 904 105 = Xi U19 904 105 from by rw [eU20]; exact Xi_ne (by omega)).trans ((show Xi U19 904 105 = Xi S 904 105 from by rw [eU19]; exact Xi_ne (by omega)))))
    have w494 : 0 ≤ Xi S 904 105 ∧ Xi S 904 105 ≤ 5000 := hH.c _ _
    have w495 : Xi T22 904 106 = Xi S 904 106 := (show Xi T22 904 106 = Xi U21 904 106 from w492.x _ _ rfl).trans ( (show Xi U21 904 106 = Xi U20 904 106 from by rw [eU21]; exact Xi_ne (by omega)).trans ( (show Xi U20 904 106 = Xi U19 904 106 from by rw [eU20]; exact Xi_ne (by omega)).trans ((show Xi U19 904 106 = Xi S 904 106 from by rw [eU19]; exact Xi_ne (by omega)))))
    have w496 : 0 ≤ Xi S 904 106 ∧ Xi S 904 106 ≤ 9 := hH.c _ _
    have w497 : Xi T22 904 16 = Xi S 904 16 := (show Xi T22 904 16 = Xi U21 904 16 from w492.x _ _ rfl).trans ( (show Xi U21 904 16 = Xi U20 904 16 from by rw [eU21]; exact Xi_ne (by omega)).trans ( (show Xi U20 904 16 = Xi U19 904 16 from by rw [eU20]; exact Xi_ne (by omega)).trans ((show Xi U19 904 16 = Xi S 904 16 from by rw [eU19]; exact Xi_ne (by omega)))))
    have w499 : Xi T22 904 19 = Xi S 904 19 := (show Xi T22 904 19 = Xi U21 904 19 from w492.x _ _ rfl).trans ( (show Xi U21 904 19 = Xi U20 904 19 from by rw [eU21]; exact Xi_ne (by omega)).trans ( (show Xi U20 904 19 = Xi U19 904 19 from by rw [eU20]; exact Xi_ne (by omega)).trans ((show Xi U19 904 19 = Xi S 904 19 from by rw [eU19]; exact Xi_ne (by omega)))))
    have w501 : Xi T22 904 60 = Xi S 904 60 := (show Xi T22 904 60 = Xi U21 904 60 from w492.x _ _ rfl).trans ( (show Xi U21 904 60 = Xi U20 904 60 from by rw [eU21]; exact Xi_ne (by omega)).trans ( (show Xi U20 904 60 = Xi U19 904 60 from by rw [eU20]; exact Xi_ne (by omega)).trans ((show Xi U19 904 60 = Xi S 904 60 from by rw [eU19]; exact Xi_ne (by omega)))))
    have w503 : Xi T22 904 61 = Xi U20 904 61 := (show Xi T22 904 61 = Xi U21 904 61 from w492.x _ _ rfl).trans ((show Xi U21 904 61 = Xi U20 904 61 from by rw [eU21]; exact Xi_ne (by omega)))
    have w504 : 0 ≤ Xi U20 904 61 ∧ Xi U20 904 61 ≤ 5001 := hHU20.c _ _
    have w505 : 0 ≤ Xi T22 904 62 ∧ Xi T22 904 62 ≤ 9 := hHT22.c _ _
    have w506 : Xi T22 904 65 = Xi S 904 65 := (show Xi T22 904 65 = Xi U21 904 65 from w492.x _ _ rfl).trans ( (show Xi U21 904 65 = Xi U20 904 65 from by rw [eU21]; exact Xi_ne (by omega)).trans ( (show Xi U20 904 65 = Xi U19 904 65 from by rw [eU20]; exact Xi_ne (by omega)).trans ((show Xi U19 904 65 = Xi S 904 65 from by rw [eU19]; exact Xi_ne (by omega)))))
    have w508 : Xi T22 904 66 = Xi S 904 66 := (show Xi T22 904 66 = Xi U21 904 66 from w492.x _ _ rfl).trans ( (show Xi U21 904 66 = Xi U20 904 66 from by rw [eU21]; exact Xi_ne (by omega)).trans ( (show Xi U20 904 66 = Xi U19 904 66 from by rw [eU20]; exact Xi_ne (by omega)).trans ((show Xi U19 904 66 = Xi S 904 66 from by rw [eU19]; exact Xi_ne (by omega)))))
    have w509 : 0 ≤ Xi S 904 66 ∧ Xi S 904 66 ≤ 5010 := hH.c _ _
    have w510 : Xi T22 904 70 = Xi S 904 70 := (show Xi T22 904 70 = Xi U21 904 70 from w492.x _ _ rfl).trans ( (show Xi U21 904 70 = Xi U20 904 70 from by rw [eU21]; exact Xi_ne (by omega)).trans ( (show Xi U20 904 70 = Xi U19 904 70 from by rw [eU20]; exact Xi_ne (by omega)).trans ((show Xi U19 904 70 = Xi S 904 70 from by rw [eU19]; exact Xi_ne (by omega)))))
    have w512 : Xi T22 904 8 = Xi U21 904 8 := (show Xi T22 904 8 = Xi U21 904 8 from w492.x _ _ rfl)
    have w513 : 0 ≤ Xi U21 904 8 ∧ Xi U21 904 8 ≤ 5010 := hHU21.c _ _
    have w514 : Xi T22 904 94 = Xi S 904 94 := (show Xi T22 904 94 = Xi U21 904 94 from w492.x _ _ rfl).trans ( (show Xi U21 904 94 = Xi U20 904 94 from by rw [eU21]; exact Xi_ne (by omega)).trans ( (show Xi U20 904 94 = Xi U19 904 94 from by rw [eU20]; exact Xi_ne (by omega)).trans ((show Xi U19 904 94 = Xi S 904 94 from by rw [eU19]; exact Xi_ne (by omega)))))
    exact Rl_weak (C36 _ T22 hHT22 hFT22  (by first | exact fun q => absurd q (by omega) | exact fun _ => ⟨by first | assumption | exact (TXM_FR w492 rfl (TXM_FR (FR_e eU21) rfl (TXM_FR (FR_e eU20) rfl (TXM_FR (FR_e eU19) rfl (by assumption : TXM S))))), by first | assumption | exact (WYM_FR w492 rfl (WYM_FR (FR_e eU21) rfl (WYM_FR (FR_e eU20) rfl (WYM_FR (FR_e eU19) rfl (by assumption : WYM S))))), by first | assumption | exact (LXM_FR w492 rfl (LXM_FR (FR_e eU21) rfl (LXM_FR (FR_e eU20) rfl (LXM_FR (FR_e eU19) rfl (by assumption : LXM S))))), by first | assumption | exact (LCN_FR w492 rfl (LCN_FR (FR_e eU21) rfl (LCN_FR (FR_e eU20) rfl (LCN_FR (FR_e eU19) rfl (by assumption : LCN S))))), by first | assumption | exact (ABV_FR w492 rfl (ABV_FR (FR_e eU21) rfl (ABV_FR (FR_e eU20) rfl (ABV_FR (FR_e eU19) rfl (by assumption : ABV S))))), by first | assumption | exact (DCM_FR w492 rfl (DCM_FR (FR_e eU21) rfl (DCM_FR (FR_e eU20) rfl (DCM_FR (FR_e eU19) rfl (by assumption : DCM S))))), by first | assumption | exact (VTM_FR w492 rfl (VTM_FR (FR_e eU21) rfl (VTM_FR (FR_e eU20) rfl (VTM_FR (FR_e eU19) rfl (by assumption : VTM S))))), by first | assumption | exact (VCN_FR w492 rfl (VCN_FR (FR_e eU21) rfl (VCN_FR (FR_e eU20) rfl (VCN_FR (FR_e eU19) rfl (by assumption : VCN S))))), by first | assumption | exact (WYD_FR w492 rfl (WYD_FR (FR_e eU21) rfl (WYD_FR (FR_e eU20) rfl (WYD_FR (FR_e eU19) rfl (by assumption : WYD S))))), by first | assumption | exact (RDT_FR hHU21 w492 rfl rfl rfl (RDT_FR hHU20 (FR_e eU21) rfl rfl rfl (RDT_FR hHU19 (FR_e eU20) rfl rfl rfl (RDT_FR hH (FR_e eU19) rfl rfl rfl (by assumption : RDT S))))), by first | assumption | exact (AKR_FR w492 rfl (AKR_FR (FR_e eU21) rfl (AKR_FR (FR_e eU20) rfl (AKR_FR (FR_e eU19) rfl (by assumption : AKR S))))), by omega, by omega⟩ | exact fun _ => (by obtain ⟨a1, a2, a3, a4, a5, a6, a7, a8, a9, a10, a11, a12, a13⟩ := hI; exact ⟨TXM_FR hFT22 rfl a1, WYM_FR hFT22 rfl a2, LXM_FR hFT22 rfl a3, LCN_FR hFT22 rfl a4, ABV_FR hFT22 rfl a5, DCM_FR hFT22 rfl a6, VTM_FR hFT22 rfl a7, VCN_FR hFT22 rfl a8, WYD_FR hFT22 rfl a9, RDT_FR hH hFT22 rfl rfl rfl a10, AKR_FR hFT22 rfl a11, by omega, by omega⟩)) (by first | assumption | exact (ABV_FR w492 rfl (ABV_FR (FR_e eU21) rfl (ABV_FR (FR_e eU20) rfl (ABV_FR (FR_e eU19) rfl (by assumption : ABV S)))))) (by first | assumption | exact (WYM_FR w492 rfl (WYM_FR (FR_e eU21) rfl (WYM_FR (FR_e eU20) rfl (WYM_FR (FR_e eU19) rfl (by assumption : WYM S)))))) (by omega) (by omega) (by first | assumption | exact (PF_FR w492 rfl (PF_FR (FR_e eU21) rfl (PF_FR (FR_e eU20) rfl (PF_FR (FR_e eU19) rfl (by assumption : PF S)))))) (by first | assumption | exact (BDA_FR w492 rfl (BDA_FR (FR_e eU21) rfl (BDA_FR (FR_e eU20) rfl (BDA_FR (FR_e eU19) rfl (by assumption : BDA S)))))) (by first | exact G84 | exact G108 | exact G167 | exact rty_0 (by omega) eZ | exact rty_1 (by omega) eZ F33.o) rfl) (And.intro rfl (True.intro))
end
section
def md_mo_begin__b : List rec := [(904, 905, 15, 16), (904, 905, 16, 17), (904, 905, 18, 19), (904, 905, 19, 20), (904, 905, 23, 24), (904, 905, 30, 31), (904, 905, 32, 33), (904, 905, 41, 42), (904, 905, 47, 48), (904, 905, 49, 50), (904, 905, 51, 52), (904, 905, 55, 56), (904, 905, 60, 61), (904, 905, 117, 118), (904, 905, 125, 126), (904, 905, 130, 131), (904, 905, 156, 157), (912, 913, 0, 100000), (913, 914, 0, 100000), (914, 915, 0, 100000), (915, 916, 0, 100000), (916, 917, 0, 100000), (917, 918, 0, 100000), (918, 919, 0, 100000), (919, 920, 0, 100000), (920, 921, 0, 100000), (921, 922, 0, 100000), (922, 923, 0, 100000), (924, 925, 0, 100000), (925, 926, 0, 100000), (926, 927, 0, 100000), (928, 929, 0, 100000), (929, 930, 0, 100000), (930, 931, 0, 100000), (933, 934, 0, 100000), (940, 941, 0, 100000), (942, 943, 0, 100000), (946, 947, 0, 100000), (947, 948, 0, 100000), (948, 949, 0, 100000), (949, 950, 0, 100000)]
abbrev Q_mo_begin__b (S : sS) : pst := fun r S1 => HI S1 ∧ FR md_mo_begin__b S S1 ∧ (r = none ∧ (TXM S1) ∧ (ABV S1) ∧ (WYM S1) ∧ (LXM S1) ∧ (AKR S1) ∧ (DCM S1) ∧ (VTM S1) ∧ (VCN S1) ∧ (LCN S1) ∧ (WYD S1) ∧ (Xi S1 904 117 = 0 ∧ Xi S1 904 125 = 0 ∧ Xi S1 904 130 = 0) ∧ (∀ a : Nat, (a : Int) < Xi S1 904 23 → Xi S1 924 a = 0) ∧ (Xi S1 904 60 < Xi S1 904 19) ∧ (2 ≤ Xi S1 904 16) ∧ (EVR m_mo_begin [.ref 904] S none S1))
theorem t_mo_begin__b {S : sS} (hH : HI S) (hB : ABV S) (hW : WYM S) (d : Nat) : Mt lay0 (d + 6) m_mo_begin [.ref 904] S (Q_mo_begin__b S) := by
  refine Mt_m (Mt_e (t_mo_begin hH hB hW d)) (fun r S1 h => ?_)
  obtain ⟨⟨h1, h2, e, p0, p1, p2, p3, p4, p5, p6, p7, p8, p9, p10, p11, p12, p13⟩, ev⟩ := h
  exact ⟨h1, h2, e, p0, p1, p2, p3, p4, p5, p6, p7, p8, p9, p10, p11, p12, p13, by rw [← e]; exact ev⟩
abbrev Q_mo_isBelow__b (S : sS) (kind : Int) (of_ : Int) : pst := fun r S1 => S = S1 ∧ (∃ z : Int, r = some (iv z) ∧ (0 ≤ z ∧ z ≤ 1) ∧ (z = 1 → 0 ≤ kind ∧ 0 ≤ of_) ∧ (ABV S ∧ kind ≤ 15 ∧ -1 ≤ kind → z = blR S kind of_))
theorem t_mo_isBelow__b {S : sS} (hH : HI S) (kind : Int) (of_ : Int) (hkind : -1 ≤ kind ∧ kind ≤ 15) (hof_ : -2147483648 ≤ of_ ∧ of_ ≤ 2147483647) (hB : ABV S) (d : Nat) : Mt lay0 (d + 1) m_mo_isBelow [.ref 904, iv kind, iv of_] S (Q_mo_isBelow__b S kind of_) := by
  refine Mt_m (Mt_i (P := ABV S ∧ kind ≤ 15 ∧ -1 ≤ kind) (t_mo_isBelow hH kind of_ hkind hof_ hB d) (fun hp => t_mo_isBelow__p hH.1 kind of_ (by omega) ⟨by omega, by omega⟩ hp.1 d)) (fun r S1 h => ?_)
  obtain ⟨⟨h1, z, e, rz, p0⟩, g0⟩ := h
  have G0 : ABV S ∧ kind ≤ 15 ∧ -1 ≤ kind → z = blR S kind of_ := fun hp => by
    obtain ⟨_, z2, e2, rz2, q0⟩ := g0 hp
    have ez : z2 = z := iv_i (e2.symm.trans e) (by unfold rg; omega) (by unfold rg; omega)
    subst ez
    exact q0
  exact ⟨h1, z, e, rz, p0, G0⟩

/-! the reference: read, and its way -/
def CTX (S C : sS) (n : Nat) : Prop := TK C n ∧ TXK C n ∧ CUT (Xi C 906) (Xj C 911) (Xi C 904 3) C n ∧ Xi C 904 3 = Xi S 904 1 ∧ (∀ j : Nat, (j : Int) < Xi S 904 1 → Xi C 906 j = Xi S 905 j) ∧ KEP [(905, 906), (911, 995)] [(904, 157)] S C
theorem ctx_i {S P C : sS} {n : Nat} (tk : TK C n) (tx : TXK C n) (c : CUT (Xi P 906) (Xj P 911) (Xi P 904 3) C n) (f : FR md_mo_cut__f P C) (z : Xi P 904 3 = Xi S 904 1) (q : ∀ j : Nat, (j : Int) < Xi S 904 1 → Xi P 906 j = Xi S 905 j) (kk : KEP [(905, 906), (911, 995)] [(904, 157)] S P) : CTX S C n := by
  have k : KEP [(906, 907), (911, 912)] [(904, 3)] P C := f.kep rfl
  have e1 : Xi C 906 = Xi P 906 := funext fun j => k.x 906 rfl j
  have e2 : Xj C 911 = Xj P 911 := funext fun j => k.j 911 rfl j
  have e3 : Xi C 904 3 = Xi P 904 3 := k.f 904 3 (by decide)
  refine ⟨tk, tx, by rw [e1, e2, e3]; exact c, by rw [e3]; exact z, fun j hj => by rw [e1]; exact q j hj, KEP.tr kk (f.kep rfl)⟩
def BGS (S B : sS) (n : Nat) : Prop := ∃ C : sS, HI C ∧ CTX S C n ∧ EVR m_mo_begin [.ref 904] C none B ∧ FR md_mo_begin__b C B
def SRY (S R : sS) : Prop := ∃ (n : Nat) (B : sS), HI B ∧ BGS S B n ∧ FR md_mo_readStory__t B R ∧ HI R ∧ RY7 n B R ∧ ¬ (Xi R 904 62 = 0 ∧ Xi R 907 (Xi R 904 8).toNat ≠ 1)
/-- the player is placed -/
def PLI (S X : sS) (v : Int) : Prop := ∃ R : sS, SRY S R ∧ Xi R 904 62 = 0 ∧ ((X = R ∧ (Xi R 919 0 = 0 → ∀ o : Nat, (o : Int) < v → blR R (Xi R 918 o) 1 = 0)) ∨ (Xi R 919 0 = 0 ∧ ∃ o : Nat, (o : Int) < v ∧ (o : Int) < Xi R 904 19 ∧ blR R (Xi R 918 o) 1 ≠ 0 ∧ (∀ j : Nat, j < o → blR R (Xi R 918 j) 1 = 0) ∧ X = uI (uI R 919 0 (Int32.ofInt 1)) 920 0 (Int32.ofInt o)))
def PLZ (S S1 : sS) (z : Int) : Prop := ∃ R : sS, SRY S R ∧ Xi R 904 62 = 0 ∧ z = Xi R 904 61 ∧ ((S1 = R ∧ (Xi R 919 0 = 0 → ∀ o : Nat, (o : Int) < Xi R 904 19 → blR R (Xi R 918 o) 1 = 0)) ∨ (Xi R 919 0 = 0 ∧ ∃ o : Nat, (o : Int) < Xi R 904 19 ∧ blR R (Xi R 918 o) 1 ≠ 0 ∧ (∀ j : Nat, j < o → blR R (Xi R 918 j) 1 = 0) ∧ S1 = uI (uI R 919 0 (Int32.ofInt 1)) 920 0 (Int32.ofInt o)))
def MRN (S S1 : sS) (z : Int) : Prop := (∃ R : sS, SRY S R ∧ Xi R 904 62 ≠ 0 ∧ z = -10 - Xi S1 904 63 ∧ EVR m_mo_begin [.ref 904] R none S1 ∧ FR md_mo_begin__b R S1) ∨ PLZ S S1 z
theorem pli_0 {S X : sS} (h : SRY S X) (f : Xi X 904 62 = 0) : PLI S X 0 := ⟨X, h, f, Or.inl ⟨rfl, fun _ o ho => by omega⟩⟩
theorem pli_n {S X : sS} {v : Int} (h : PLI S X v) (h0 : 0 ≤ v) (w : Xi X 919 0 = 0) (b : blR X (Xi X 918 v.toNat) 1 = 0) : PLI S X (v + 1) := by
  obtain ⟨R, s, f, q⟩ := h
  refine ⟨R, s, f, ?_⟩
  rcases q with ⟨e, q⟩ | ⟨z, o, o1, o2, o3, o4, o5⟩
  · subst e
    refine Or.inl ⟨rfl, fun z o ho => ?_⟩
    by_cases u : (o : Int) < v
    · exact q z o u
    · rw [show o = v.toNat by omega]; exact b
  · exact Or.inr ⟨z, o, by omega, o2, o3, o4, o5⟩
theorem pli_y {S X Y Z : sS} {v : Int} (h : PLI S X v) (h0 : 0 ≤ v) (hv : v < Xi X 904 19) (w : Xi X 919 0 = 0) (b : blR X (Xi X 918 v.toNat) 1 ≠ 0) (e1 : Y = uI X 919 (0 : Int).toNat (Int32.ofInt 1)) (e2 : Z = uI Y 920 (0 : Int).toNat (Int32.ofInt v)) : PLI S Z (v + 1) := by
  obtain ⟨R, s, f, q⟩ := h
  refine ⟨R, s, f, ?_⟩
  rcases q with ⟨e, q⟩ | ⟨z, o, o1, o2, o3, o4, o5⟩
  · subst e
    refine Or.inr ⟨w, v.toNat, by omega, by omega, b, fun j hj => q w j (by omega), ?_⟩
    rw [e2, e1, show ((v.toNat : Nat) : Int) = v by omega]
    rfl
  · exfalso
    rw [o5, Xi_ne (by omega), Xi_same (by unfold rg; omega)] at w
    exact absurd w (by decide)
theorem pli_e {S X : sS} {v z : Int} (h : PLI S X v) (hz : z = Xi X 904 61) (hv : Xi X 904 19 ≤ v ∨ Xi X 919 0 ≠ 0) : PLZ S X z := by
  obtain ⟨R, s, f, q⟩ := h
  rcases q with ⟨e, q⟩ | ⟨y, o, o1, o2, o3, o4, o5⟩
  · subst e
    exact ⟨X, s, f, hz, Or.inl ⟨rfl, fun y o ho => q y o (by omega)⟩⟩
  · refine ⟨R, s, f, ?_, Or.inr ⟨y, o, o2, o3, o4, o5⟩⟩
    rw [hz, o5, Xi_ne (by omega), Xi_ne (by omega)]
def md_mo_read__t : List rec := [(904, 905, 1, 2), (904, 905, 3, 4), (904, 905, 8, 9), (904, 905, 15, 16), (904, 905, 16, 17), (904, 905, 18, 19), (904, 905, 19, 20), (904, 905, 23, 24), (904, 905, 30, 31), (904, 905, 32, 33), (904, 905, 41, 42), (904, 905, 47, 48), (904, 905, 49, 50), (904, 905, 51, 52), (904, 905, 55, 56), (904, 905, 60, 61), (904, 905, 61, 62), (904, 905, 62, 63), (904, 905, 63, 64), (904, 905, 64, 65), (904, 905, 65, 66), (904, 905, 66, 67), (904, 905, 69, 70), (904, 905, 70, 71), (904, 905, 71, 72), (904, 905, 72, 73), (904, 905, 73, 74), (904, 905, 74, 75), (904, 905, 75, 76), (904, 905, 76, 77), (904, 905, 77, 78), (904, 905, 78, 79), (904, 905, 79, 80), (904, 905, 80, 81), (904, 905, 81, 82), (904, 905, 93, 94), (904, 905, 94, 95), (904, 905, 98, 99), (904, 905, 99, 100), (904, 905, 100, 101), (904, 905, 101, 102), (904, 905, 102, 103), (904, 905, 103, 104), (904, 905, 104, 105), (904, 905, 105, 106), (904, 905, 106, 107), (904, 905, 108, 109), (904, 905, 109, 110), (904, 905, 110, 111), (904, 905, 112, 113), (904, 905, 113, 114), (904, 905, 115, 116), (904, 905, 116, 117), (904, 905, 117, 118), (904, 905, 125, 126), (904, 905, 128, 129), (904, 905, 129, 130), (904, 905, 130, 131), (904, 905, 142, 143), (904, 905, 144, 145), (904, 905, 146, 147), (904, 905, 147, 148), (904, 905, 150, 151), (904, 905, 151, 152), (904, 905, 153, 154), (904, 905, 154, 155), (904, 905, 156, 157), (904, 905, 157, 158), (904, 905, 158, 159), (904, 905, 160, 161), (906, 907, 0, 100000), (907, 908, 0, 100000), (908, 909, 0, 100000), (909, 910, 0, 100000), (910, 911, 0, 100000), (912, 913, 0, 100000), (913, 914, 0, 100000), (914, 915, 0, 100000), (915, 916, 0, 100000), (916, 917, 0, 100000), (917, 918, 0, 100000), (918, 919, 0, 100000), (919, 920, 0, 100000), (920, 921, 0, 100000), (921, 922, 0, 100000), (922, 923, 0, 100000), (923, 924, 0, 100000), (924, 925, 0, 100000), (925, 926, 0, 100000), (926, 927, 0, 100000), (927, 928, 0, 100000), (928, 929, 0, 100000), (929, 930, 0, 100000), (930, 931, 0, 100000), (931, 932, 0, 100000), (932, 933, 0, 100000), (933, 934, 0, 100000), (934, 935, 0, 100000), (935, 936, 0, 100000), (936, 937, 0, 100000), (937, 938, 0, 100000), (938, 939, 0, 100000), (939, 940, 0, 100000), (940, 941, 0, 100000), (941, 942, 0, 100000), (942, 943, 0, 100000), (943, 944, 0, 100000), (944, 945, 0, 100000), (945, 946, 0, 100000), (946, 947, 0, 100000), (947, 948, 0, 100000), (948, 949, 0, 100000), (949, 950, 0, 100000), (950, 951, 0, 100000), (951, 952, 0, 100000), (952, 953, 0, 100000), (953, 954, 0, 100000), (954, 955, 0, 100000), (955, 956, 0, 100000), (956, 957, 0, 100000), (957, 958, 0, 100000), (958, 959, 0, 100000), (959, 960, 0, 100000), (960, 961, 0, 100000), (961, 962, 0, 100000), (962, 963, 0, 100000), (963, 964, 0, 100000), (964, 965, 0, 100000), (965, 966, 0, 100000), (966, 967, 0, 100000), (967, 968, 0, 100000), (968, 969, 0, 100000), (969, 970, 0, 100000), (970, 971, 0, 100000), (971, 972, 0, 100000), (972, 973, 0, 100000), (973, 974, 0, 100000), (974, 975, 0, 100000), (975, 976, 0, 100000), (976, 977, 0, 100000), (977, 978, 0, 100000), (978, 979, 0, 100000), (979, 980, 0, 100000), (980, 981, 0, 100000), (981, 982, 0, 100000), (982, 983, 0, 100000), (983, 984, 0, 100000), (984, 985, 0, 100000), (985, 986, 0, 100000), (986, 987, 0, 100000), (987, 988, 0, 100000), (988, 989, 0, 100000), (989, 990, 0, 100000), (990, 991, 0, 100000), (991, 992, 0, 100000), (992, 993, 0, 100000), (993, 994, 0, 100000), (994, 995, 0, 100000)]
end
section
/-! the rows of a sentence are the reference's tokens, all of them -/
theorem deF_dg {B : Nat → Int} {e : Int} : ∀ (f : Nat) (p j : Int), p ≤ j → j < deF B e f p → 48 ≤ B j.toNat ∧ B j.toNat ≤ 57
  | 0, p, j, h0, h1 => by
    have h1 : j < p := h1
    omega
  | f + 1, p, j, h0, h1 => by
    by_cases q : p < e ∧ 48 ≤ B p.toNat ∧ B p.toNat ≤ 57
    · have u : deF B e (f + 1) p = deF B e f (p + 1) := if_pos q
      rw [u] at h1
      by_cases w : j = p
      · rw [w]; exact q.2
      · exact deF_dg f (p + 1) j (by omega) h1
    · have u : deF B e (f + 1) p = p := if_neg q
      omega
def b9 : Nat → Int
  | 0 => 0
  | n + 1 => b9 n * 10 + 9
theorem dv_rg {B : Nat → Int} {f : Nat} : ∀ n : Nat, (∀ i : Nat, i < n → 48 ≤ B (f + i) ∧ B (f + i) ≤ 57) → 0 ≤ dvF B f n ∧ dvF B f n ≤ b9 n
  | 0, _ => ⟨Int.le_refl _, Int.le_refl _⟩
  | n + 1, h => by
    obtain ⟨a, b⟩ := dv_rg n (fun i hi => h i (by omega))
    have c := h n (by omega)
    have e1 : dvF B f (n + 1) = dvF B f n * 10 + (B (f + n) - 48) := rfl
    have e2 : b9 (n + 1) = b9 n * 10 + 9 := rfl
    omega
theorem b9_6 {n : Nat} (h : n ≤ 6) : b9 n ≤ 999999 := by
  rcases (by omega : n = 0 ∨ n = 1 ∨ n = 2 ∨ n = 3 ∨ n = 4 ∨ n = 5 ∨ n = 6) with e | e | e | e | e | e | e <;> rw [e] <;> decide
/-- numbers have six figures -/
theorem nvl_r {T : sS} {ts r : Nat} {e : Int} (he : Xi T 876 5 = e) (hr : RW7 T ts r) (q : Xi T 877 r = 101) : 0 ≤ Xj T 879 r ∧ Xj T 879 r ≤ 999999 := by
  obtain ⟨a0, a1, a2, a3⟩ := hr
  rw [he] at a1 a2 a3
  rw [a2] at q
  obtain ⟨q1, q2, q3, q4⟩ := t7_101 q
  have v := a3 q1
  have vv : v7 (Xi T ts) e (Xi T 878 r) = dvF (Xi T ts) (Xi T 878 r).toNat (de7 (Xi T ts) e (Xi T 878 r) - Xi T 878 r).toNat := by
    unfold v7
    rw [if_neg (fun z => z q2), if_pos ⟨q3, q4⟩]
  have l6 : de7 (Xi T ts) e (Xi T 878 r) - Xi T 878 r ≤ 6 := by
    unfold q7 at q1
    rw [if_neg (fun z => z q2), if_pos ⟨q3, q4⟩] at q1
    split at q1
    · assumption
    · exact absurd rfl q1
  rw [v, vv]
  obtain ⟨x, y⟩ := dv_rg (B := Xi T ts) (f := (Xi T 878 r).toNat) (de7 (Xi T ts) e (Xi T 878 r) - Xi T 878 r).toNat (fun i hi => by
    have t := deF_dg (B := Xi T ts) (e := e) (e - Xi T 878 r).toNat (Xi T 878 r) (Xi T 878 r + i) (by omega) (by show _ < de7 (Xi T ts) e (Xi T 878 r); omega)
    rw [show (Xi T 878 r + (i : Int)).toNat = (Xi T 878 r).toNat + i by omega] at t
    exact t)
  have z := b9_6 (n := (de7 (Xi T ts) e (Xi T 878 r) - Xi T 878 r).toNat) (by omega)
  omega
theorem tkw_of {T S : sS} {ts f r : Nat} {e : Int} (hK : KEYR (Xj T 880) (Xj S 911)) (hB : BE (Xi T ts) (Xi S 906) e) (he : Xi T 876 5 = e) (hr : RW7 T ts r) (t : TKE T S f r) : TKW T S f r := by
  refine ⟨t.1, t.2.1, fun q => ⟨?_, (t.2.2.1 (by omega)).1⟩, t.2.2.2.1, t.2.2.2.2⟩
  obtain ⟨a0, a1, a2, a3⟩ := hr
  rw [he] at a1 a2 a3
  rw [a2] at q
  obtain ⟨q1, q2⟩ := t7_100 (K := Xj T 880) (B := Xi T ts) (e := e) (p := Xi T 878 r) (by omega)
  have v := a3 q1
  have vv : v7 (Xi T ts) e (Xi T 878 r) = c27 (Xi T ts) (Xi T 878 r).toNat (we7 (Xi T ts) e (Xi T 878 r) - Xi T 878 r).toNat := if_pos q2
  have l12 : we7 (Xi T ts) e (Xi T 878 r) - Xi T 878 r ≤ 12 := by
    unfold q7 at q1
    rw [if_pos q2] at q1
    split at q1
    · assumption
    · exact absurd rfl q1
  rw [v, vv]
  exact (wok_w (B := Xi T ts) (C := Xi T ts) (to := e) (p := (Xi T 878 r, we7 (Xi T ts) e (Xi T 878 r))) (fun _ _ => rfl) ⟨a0, we7_gt a1 q2, by show we7 (Xi T ts) e (Xi T 878 r) ≤ Xi T 878 r + 12; omega, weF_in (by omega), q2⟩).1
/-- what both know of the text -/
def TXB (V X : sS) (ts n : Nat) (e : Int) : Prop := HI V ∧ KEYR (Xj V 880) (Xj X 911) ∧ BE (Xi V ts) (Xi X 906) e ∧ Xi V 876 5 = e ∧ CUT (Xi X 906) (Xj X 911) e X n ∧ TK X n
/-- the token behind token i -/
theorem nx_tok {V X : sS} {ts n i : Nat} {e : Int} (x : TXB V X ts n e) (hi : i < n) (h2 : Xi X 907 i ≠ 2) : (i + 1 < n → Xi X 908 (i + 1) = sk7 (Xi V ts) e (q7 (Xi V ts) e (Xi X 908 i)) ∧ Xi X 908 (i + 1) < e) ∧ (i + 1 = n → e ≤ sk7 (Xi V ts) e (q7 (Xi V ts) e (Xi X 908 i))) := by
  obtain ⟨hH, hK, hB, he, hC, tk⟩ := x
  have rm := hC.1.2.1 i (by omega)
  have q0 := rm_q rm h2
  have qc := q7_c hB rm.1 rm.2.1
  have q0' : q7 (Xi V ts) e (Xi X 908 i) ≠ -1 := by rw [qc]; exact q0
  have sc := sk7_c2 hB (q7_ge rm.1 q0')
  refine ⟨fun h => ⟨?_, (hC.1.2.1 (i + 1) (by omega)).2.1⟩, fun h => ?_⟩
  · rw [sc, qc]; exact (hC.1.2.2 i (by omega)).1
  · rw [sc, qc]
    rcases hC.2.2.2.2 (by omega) with y | y
    · rw [show n - 1 = i by omega] at y; exact absurd y h2
    · rw [show n - 1 = i by omega] at y; exact y
theorem tr_46 {t : Int} (h : 0 ≤ t ∧ t ≤ 108) : (tr7 t = 46 ↔ t = 103) ∧ (tr7 t = 1 ↔ t = 107) ∧ (tr7 t = 2 ↔ t = 108) ∧ (tr7 t = 5 ↔ t = 102) := by
  rcases (by omega : t < 100 ∨ t = 100 ∨ t = 101 ∨ t = 102 ∨ t = 103 ∨ t = 104 ∨ t = 105 ∨ t = 106 ∨ t = 107 ∨ t = 108) with e | e | e | e | e | e | e | e | e | e
  · have u : tr7 t = 100 + t := if_pos e
    omega
  all_goals (rw [e]; decide)
theorem ty_rg {V : sS} (hH : HI V) (i : Int) : 0 ≤ ty7 V i ∧ ty7 V i ≤ 108 := by
  unfold ty7
  split
  · have rg := hH.c 877 i.toNat
    have rl : lh 877 i.toNat = (0, 108) := rfl
    rw [rl] at rg
    exact rg
  · decide
theorem r877 {V : sS} (hH : HI V) (i : Nat) : 0 ≤ Xi V 877 i ∧ Xi V 877 i ≤ 108 := by
  have rg := hH.c 877 i
  have rl : lh 877 i = (0, 108) := rfl
  rw [rl] at rg
  exact rg
/-- the rows of SC are tokens -/
theorem sc_tk {V X : sS} {ts f n : Nat} {e a m : Int} (x : TXB V X ts n e) (hf : f < n) (hp : Xi X 908 f = a) (hS : SC V ts a m) : ∀ r : Nat, (r : Int) < m → f + r < n ∧ TKW V X f r ∧ (Xi V 877 r = 101 → 0 ≤ Xj V 879 r ∧ Xj V 879 r ≤ 999999) := fun r hr => by
  obtain ⟨hH, hK, hB, he, hC, tk⟩ := x
  obtain ⟨h1, h2⟩ := tk_all hH hK hB he hC hS hf hp r hr
  exact ⟨h1, tkw_of hK hB he (hS.2.1 r hr) h2, fun q => nvl_r he (hS.2.1 r hr) q⟩
/-- all rows, and what stands behind them -/
def SNK (V X : sS) (ts f n : Nat) (e z : Int) : Prop := (∀ r : Nat, (r : Int) < Xi V 876 7 → f + r ≤ n ∧ TKW V X f r ∧ (Xi V 877 r = 101 → 0 ≤ Xj V 879 r ∧ Xj V 879 r ≤ 999999)) ∧
  (∀ r : Nat, (r : Int) + 1 < Xi V 876 7 → Xi V 877 r ≠ 103 ∧ Xi V 877 r ≠ 107 ∧ Xi V 877 r ≠ 108 ∧ f + r < n ∧ (r = 0 → Xi V 877 r = 102 → Xi V 876 7 = 2 ∧ Xi V 877 1 = 103)) ∧
  ((Xi V 877 (Xi V 876 7 - 1).toNat = 108) ∨ (Xi V 877 (Xi V 876 7 - 1).toNat = 107 ∧ (f : Int) + Xi V 876 7 = n + 1) ∨ ((Xi V 877 (Xi V 876 7 - 1).toNat = 103 ∨ (Xi V 876 7 = 1 ∧ Xi V 877 0 = 102 ∧ Xi X 907 (f + 1) ≠ 46)) ∧ (f : Int) + Xi V 876 7 ≤ n ∧ ((f : Int) + Xi V 876 7 < n → Xi X 908 (f + (Xi V 876 7).toNat) = sk7 (Xi V ts) e z ∧ sk7 (Xi V ts) e z < e) ∧ ((f : Int) + Xi V 876 7 = n → e ≤ sk7 (Xi V ts) e z)))

/-! a sentence that the class has taken: its rows, and what stands behind it -/
theorem t7_103 {K B : Nat → Int} {e p : Int} : (t7 K B e p = 103 → B p.toNat = 46) ∧ (0 ≤ p → B p.toNat = 46 → t7 K B e p = 103 ∧ q7 B e p = p + 1) := by
  refine ⟨fun h => ?_, fun h0 h => ?_⟩
  · have r := kyF_r (K := K) (c := v7 B e p) (df := 100) 55 0 (by omega)
    unfold t7 ky7 at h
    by_cases q : q7 B e p = -1
    · rw [if_pos q] at h; omega
    · rw [if_neg q] at h
      by_cases l : lt7 (B p.toNat) ≠ 0
      · rw [if_pos l] at h; omega
      · rw [if_neg l] at h
        by_cases d : 48 ≤ B p.toNat ∧ B p.toNat ≤ 57
        · rw [if_pos d] at h; omega
        · rw [if_neg d] at h
          by_cases x : B p.toNat = 34
          · rw [if_pos x] at h; omega
          · rw [if_neg x] at h
            by_cases y : B p.toNat = 46
            · exact y
            · rw [if_neg y] at h
              exfalso
              split at h
              · omega
              · split at h <;> omega
  · have l : lt7 (B p.toNat) = 0 := by rw [h]; rfl
    have q : q7 B e p = p + 1 := by
      unfold q7
      rw [if_neg (fun z => z l), if_neg (by omega), if_neg (by omega), if_pos (Or.inl h)]
    refine ⟨?_, q⟩
    unfold t7
    by_cases z : q7 B e p = -1
    · rw [if_pos z]
      exfalso
      omega
    · rw [if_neg z, if_neg (fun z => z l), if_neg (by omega), if_neg (by omega), if_pos h]
theorem snk_i {V X : sS} {ts f n : Nat} {e a z : Int} (x : TXB V X ts n e) (hf : f < n) (hp : Xi X 908 f = a) (h0 : 0 ≤ a) (r1 : 1 ≤ Xi V 876 7) (hS : SEN V ts a z) : SNK V X ts f n e z := by
  have x' := x
  obtain ⟨hH, hK, hB, he, hC, tk⟩ := x'
  have tk1 : Xi X 907 n = 1 := tk.2.1
  have tkn : ∀ i : Nat, i < n → Xi X 907 i ≠ 1 := tk.2.2.1
  have p7 : ∀ i : Nat, i < n → 0 ≤ Xi X 908 i ∧ Xi X 908 i < e ∧ Xi X 907 i = tr7 (t7 (Xj V 880) (Xi V ts) e (Xi X 908 i)) := fun i hi => by
    have rm := hC.1.2.1 i (by omega)
    exact ⟨rm.1, rm.2.1, by rw [rm.2.2.1, m7_t hK, ← t7_c hB rm.1 rm.2.1]⟩
  rcases hS with ⟨sc, cl, dt⟩ | ⟨sc, r2, l7, l8, zz, op⟩ | ⟨r2, sc, t0, t1, dt, p1, zz⟩
  · have k := sc_tk x hf hp sc
    have ls := k (Xi V 876 7 - 1).toNat (by omega)
    have kw := ls.2.1
    refine ⟨fun r hr => ⟨by have := (k r hr).1; omega, (k r hr).2.1, (k r hr).2.2⟩, fun r hr => ?_, ?_⟩
    · obtain ⟨_, c2, c3, c4⟩ := sc.2.2 r hr
      have kr := k r (by omega)
      refine ⟨c2, fun w => ?_, c3, kr.1, fun w1 w2 => absurd w2 (c4 w1)⟩
      have t := kr.2.1.2.1
      rw [w] at t
      exact tkn _ kr.1 t
    · rcases cl.2 with ⟨c, _⟩ | ⟨c, c2, c3⟩
      · exact Or.inl c
      · have n8 : Xi V 877 (Xi V 876 7 - 1).toNat ≠ 108 := by
          rcases c with c | c
          · omega
          · have := c.2; omega
        have n2 : Xi X 907 (f + (Xi V 876 7 - 1).toNat) ≠ 2 := fun w => n8 ((tr_46 (r877 hH _)).2.2.1.1 (by rw [← kw.2.1]; exact w))
        obtain ⟨y1, y2⟩ := nx_tok x ls.1 n2
        rw [kw.1, ← he, ← c2] at y1 y2
        rw [he] at y1 y2
        refine Or.inr (Or.inr ⟨?_, by have := ls.1; omega, fun w => ?_, fun w => ?_⟩)
        · rcases c with c | ⟨c, d⟩
          · exact Or.inl c
          · rw [show (Xi V 876 7 - 1).toNat = 0 by omega] at d
            refine Or.inr ⟨c, d, fun w => ?_⟩
            have l1 : f + 1 ≤ n := by omega
            by_cases u : f + 1 = n
            · rw [u, tk1] at w; exact absurd w (by decide)
            · obtain ⟨u0, u1, u2⟩ := p7 (f + 1) (by omega)
              have y := y1 (by omega)
              rw [show f + (Xi V 876 7 - 1).toNat + 1 = f + 1 by omega] at y
              rw [u2] at w
              have t3 := t7_103.1 ((tr_46 ⟨by
                have r := kyF_r (K := Xj V 880) (c := v7 (Xi V ts) e (Xi X 908 (f + 1))) (df := 100) 55 0 (by omega)
                unfold t7 ky7
                split
                · decide
                · split
                  · omega
                  · split
                    · decide
                    · split
                      · decide
                      · split
                        · decide
                        · split
                          · decide
                          · split <;> decide, by
                have r := kyF_r (K := Xj V 880) (c := v7 (Xi V ts) e (Xi X 908 (f + 1))) (df := 100) 55 0 (by omega)
                unfold t7 ky7
                split
                · decide
                · split
                  · omega
                  · split
                    · decide
                    · split
                      · decide
                      · split
                        · decide
                        · split
                          · decide
                          · split <;> decide⟩).1.1 w)
              refine dt c d ⟨by rw [he]; omega, ?_⟩
              rw [he, ← y.1]
              exact t3
        · have y := y1 (by omega)
          rw [show f + (Xi V 876 7 - 1).toNat + 1 = f + (Xi V 876 7).toNat by omega] at y
          exact ⟨y.1, by omega⟩
        · exact y2 (by omega)
  · have k := sc_tk x hf hp sc
    have ls := k (Xi V 876 7 - 2).toNat (by omega)
    have kw := ls.2.1
    obtain ⟨o1, o2, o3, o4⟩ := op
    rw [show Xi V 876 7 - 1 - 1 = Xi V 876 7 - 2 by omega] at o1 o2 o3 o4
    have n2 : Xi X 907 (f + (Xi V 876 7 - 2).toNat) ≠ 2 := fun w => o3 ((tr_46 (r877 hH _)).2.2.1.1 (by rw [← kw.2.1]; exact w))
    obtain ⟨y1, y2⟩ := nx_tok x ls.1 n2
    rw [kw.1, ← he, ← o1] at y1
    rw [he] at y1
    have en : f + (Xi V 876 7 - 2).toNat + 1 = n := by
      by_cases u : f + (Xi V 876 7 - 2).toNat + 1 < n
      · have y := y1 u; omega
      · have := ls.1; omega
    have e1 : f + (Xi V 876 7 - 1).toNat = n := by omega
    have an : Xi X 908 n = e := hC.2.2.1
    refine ⟨fun r hr => ?_, fun r hr => ?_, Or.inr (Or.inl ⟨l7, by omega⟩)⟩
    · by_cases u : (r : Int) < Xi V 876 7 - 1
      · exact ⟨by have := (k r u).1; omega, (k r u).2.1, (k r u).2.2⟩
      · have er : r = (Xi V 876 7 - 1).toNat := by omega
        rw [er, l7]
        refine ⟨by omega, ⟨by rw [e1, an, l8, he], by rw [e1, l7, tk1]; rfl, fun w => absurd w (by rw [l7]; decide), fun w => absurd w (by rw [l7]; decide), fun w => absurd w (by rw [l7]; decide)⟩, fun w => absurd w (by decide)⟩
    · have kr := k r (by omega)
      have n7 : Xi V 877 r ≠ 107 := fun w => by
        have t := kr.2.1.2.1
        rw [w] at t
        exact tkn _ kr.1 t
      by_cases u : (r : Int) + 1 < Xi V 876 7 - 1
      · obtain ⟨_, c2, c3, c4⟩ := sc.2.2 r u
        exact ⟨c2, n7, c3, kr.1, fun w1 w2 => absurd w2 (c4 w1)⟩
      · have er : r = (Xi V 876 7 - 2).toNat := by omega
        rw [← er] at o2 o3 o4
        exact ⟨o2, n7, o3, kr.1, fun w1 w2 => absurd w2 (o4 (by omega))⟩
  · have k0 := sc_tk x hf hp sc 0 (by omega)
    have kw := k0.2.1
    have c0 : Xi X 908 f = Xi V 878 0 := kw.1
    have n2 : Xi X 907 f ≠ 2 := fun w => by
      have t : Xi X 907 f = tr7 (Xi V 877 0) := kw.2.1
      rw [t0] at t
      rw [t] at w
      exact absurd w (by decide)
    obtain ⟨y1, y2⟩ := nx_tok x hf n2
    rw [c0] at y1 y2
    rw [he] at dt p1
    have l1 : f + 1 < n := by
      by_cases u : f + 1 = n
      · have := y2 u; have := dt.1; omega
      · omega
    have y := y1 l1
    rw [← p1] at y
    have b46 : Xi V ts (Xi V 878 1).toNat = 46 := by rw [p1]; exact dt.2
    obtain ⟨u0, u1, u2⟩ := p7 (f + 1) l1
    obtain ⟨q1, q2⟩ := (t7_103 (K := Xj V 880) (B := Xi V ts) (e := e) (p := Xi V 878 1)).2 (by rw [← y.1]; exact u0) b46
    have s1 : Xi X 907 (f + 1) = 46 := by rw [u2, y.1, q1]; rfl
    obtain ⟨w1, w2⟩ := nx_tok x l1 (by rw [s1]; decide)
    rw [y.1, q2, ← zz] at w1 w2
    refine ⟨fun r hr => ?_, fun r hr => ?_, Or.inr (Or.inr ⟨Or.inl (by rw [show (Xi V 876 7 - 1).toNat = 1 by omega]; exact t1), by omega, fun w => ?_, fun w => w2 (by omega)⟩)⟩
    · rcases (by omega : r = 0 ∨ r = 1) with u | u
      · subst u
        exact ⟨by omega, k0.2.1, k0.2.2⟩
      · subst u
        exact ⟨by omega, ⟨y.1, by rw [s1, t1]; rfl, fun w => absurd w (by rw [t1]; decide), fun w => absurd w (by rw [t1]; decide), fun w => absurd w (by rw [t1]; decide)⟩, fun w => absurd w (by rw [t1]; decide)⟩
    · have er : r = 0 := by omega
      subst er
      exact ⟨by rw [t0]; decide, by rw [t0]; decide, by rw [t0]; decide, by omega, fun _ _ => ⟨r2, t1⟩⟩
    · have v := w1 (by omega)
      rw [show f + (Xi V 876 7).toNat = f + 1 + 1 by omega]
      exact ⟨v.1, by omega⟩
end
