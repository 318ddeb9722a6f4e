/-! WHAT HOLDS BETWEEN THE LAW'S CALLS -/
/-- as sG, but of the tapes only the texts stay -/
def sGt (S S1 : sS) : Prop := (∀ j, Xi S1 (txr S) j = Xi S (txr S) j) ∧ S1.2.2 20 1 = S.2.2 20 1 ∧ (Xi S 246 8 ≤ Xi S1 246 8 ∧ Xi S1 246 8 ≤ 1666 ∧ ∀ j : Nat, (j : Int) < Xi S 246 8 → Xi S1 274 j = Xi S 274 j ∧ Xi S1 275 j = Xi S 275 j) ∧ Xi S 5 3 ≤ Xi S1 5 3 ∧ Xi S 5 8 ≤ Xi S1 5 8 ∧ (∀ j : Nat, (j : Int) < Xi S 5 8 → Xi S1 19 j = Xi S 19 j) ∧ Xi S 246 5 ≤ Xi S1 246 5 ∧ ∀ c : Nat, c < 600 → (c : Int) < Xi S 246 5 → ∀ j, Xi S1 (276 + c) j = Xi S (276 + c) j
theorem nbr_gt {S S1 : sS} {v n : Int} (h : sGt S S1) (ht : TXT S v n) : nbr S1 (txr S1) v n.toNat = nbr S (txr S) v n.toNat := by
  have et : txr S1 = txr S := by unfold txr; rw [h.2.1]
  rw [et]
  rcases ht with ht | ht
  · rw [show n.toNat = 0 by omega]; rfl
  · exact nbr_eq (fun j => h.1 j) _
theorem INS_sGt {S S1 : sS} {b : Prop} {w v n : Int} (h : sGt S S1) (ht : TXT S v n) (hi : INS S b w v n) : INS S1 b w v n := by
  obtain ⟨a3, a4, a5⟩ := h.2.2.1
  unfold INS
  rw [nbr_gt h ht]
  refine ⟨hi.1.elim (fun e => Or.inl (by omega)) (fun e => Or.inr (by omega)), fun j h1 h2 h3 h4 => ?_⟩
  have hj : (j : Int) < Xi S 246 8 := hi.1.elim (fun e => by omega) (fun e => by omega)
  rw [(a5 j hj).1]
  rw [(a5 j hj).2] at h4
  exact hi.2 j h1 h2 hj h4
theorem CLok_sGt {S S1 : sS} {b : Prop} {c : Nat} (hH : HI S) (h : sGt S S1) (hc : c < 600) (hcc : (c : Int) < Xi S 246 5) (hk : CLok S b c) : CLok S1 b c := by
  have x : ∀ j, Xi S1 (276 + c) j = Xi S (276 + c) j := h.2.2.2.2.2.2.2 c hc hcc
  have g3 := h.2.2.2.1
  have g8 := h.2.2.2.2.1
  have g19 := h.2.2.2.2.2.1
  obtain ⟨k0, k1, k2, k3, k4, k5, k6, k7⟩ := hk
  unfold CLok
  simp only [x]
  refine ⟨fun e => ⟨(k0 e).1, (k0 e).2.1, by have := (k0 e).2.2; omega⟩, fun e => ⟨(k1 e).1, TXT_eq h.2.1 (k1 e).2⟩, k2, k3, k4, fun e => ⟨TXT_eq h.2.1 (k5 e).1, INS_sGt h (k5 e).1 (k5 e).2⟩, k6, fun e => ?_⟩
  obtain ⟨q0, q1, q2, q3⟩ := k7 e
  rw [g19 _ (by omega)]
  exact ⟨q0, by omega, q2, q3⟩
theorem TSok_sGt {S S1 : sS} {b : Prop} {c : Nat} (hH : HI S) (h : sGt S S1) (hc : c < 600) (hcc : (c : Int) < Xi S 246 5) (hk : TSok S b c) : TSok S1 b c := ⟨CLok_sGt hH h hc hcc hk.1, by rw [h.2.2.2.2.2.2.2 c hc hcc]; exact hk.2⟩
theorem DEF_sGt {S S1 : sS} (hH : HI S) (h : sGt S S1) (h1 : ∀ a : Nat, (a : Int) < Xi S 5 3 → Xi S1 11 a = Xi S 11 a ∧ Xi S1 12 a = Xi S 12 a ∧ Xi S1 13 a = Xi S 13 a) (h2 : ∀ a : Nat, Xi S 5 3 ≤ a → (a : Int) < Xi S1 5 3 → Xi S1 11 a ≠ -1) (hD : DEF S) : DEF S1 := by
  intro a ha hc
  by_cases e : (a : Int) < Xi S 5 3
  · obtain ⟨x, y, z⟩ := h1 a e
    rw [x] at hc
    rw [y, z]
    obtain ⟨⟨b1, b2, b3⟩, b4⟩ := hD a e hc
    have g5 := h.2.2.2.2.2.2.1
    exact ⟨⟨b1, b2, by omega⟩, fun i hi => TSok_sGt hH h (by omega) (by omega) (b4 i hi)⟩
  · exact absurd hc (h2 a (by omega) ha)
theorem RUL1_sGt {S S1 : sS} (hH : HI S) (h : sGt S S1) {i : Nat} (hi : i < 24) (x : ∀ j, Xi S1 (248 + i) j = Xi S (248 + i) j) (hR : RUL1 S i) : RUL1 S1 i := by
  obtain ⟨⟨b1, b1b, b1c, b1d⟩, b2, b3, b4⟩ := hR
  have p4 : 0 ≤ Xi S (248 + i) 4 ∧ Xi S (248 + i) 4 ≤ 5 := ruc4 hH hi
  have p5 : 0 ≤ Xi S (248 + i) 5 ∧ Xi S (248 + i) 5 ≤ 6 := ruc5 hH hi
  have p6 : 0 ≤ Xi S (248 + i) 6 ∧ Xi S (248 + i) 6 ≤ 8 := ruc6 hH hi
  have g5 := h.2.2.2.2.2.2.1
  have g8 := h.2.2.2.2.1
  have n : rN S1 i = rN S i := by
    unfold rN
    rw [x]
    by_cases e : 0 ≤ Xi S (248 + i) 1
    · rw [h.2.2.2.2.2.1 _ (by omega)]
    · exact propext ⟨fun q => absurd q.1 e, fun q => absurd q.1 e⟩
  unfold RUL1
  rw [n]
  simp only [x]
  exact ⟨⟨b1, b1b, by omega, by omega⟩, b2, fun j hj => TSok_sGt hH h (by omega) (by omega) (b3 j hj), fun j hj => CLok_sGt hH h (by omega) (by omega) (b4 j hj)⟩
theorem RUL_sGt {S S1 : sS} (hH : HI S) (h : sGt S S1) (x : ∀ i : Nat, (i : Int) < Xi S 246 2 → ∀ j, Xi S1 (248 + i) j = Xi S (248 + i) j) (h3 : Xi S1 246 2 = Xi S 246 2) (hR : RUL S) : RUL S1 := by
  intro i hi
  rw [h3] at hi
  have h24 : 0 ≤ Xi S 246 2 ∧ Xi S 246 2 ≤ 24 := hH.c _ _
  exact RUL1_sGt hH h (by omega) (x i hi) (hR i hi)
theorem FR_sGt {l : List rec} {S S1 : sS} (hH : HI S) (h : FR l S S1) (e : (kdis l [(5, 6), (19, 20), (274, 876)] && (!(mdf l 20 1) && (!(mdf l 246 8) && !(mdf l 246 5)))) = true) (ht : ∀ j, Xi S1 (txr S) j = Xi S (txr S) j) : sGt S S1 := by
  simp only [Bool.and_eq_true, Bool.not_eq_true'] at e
  have k := h.smk e.1
  have x8 := h.x 246 8 e.2.2.1
  have x5 := h.x 246 5 e.2.2.2
  have r8 : 0 ≤ Xi S 246 8 ∧ Xi S 246 8 ≤ 1666 := hH.c _ _
  exact ⟨ht, (h 20 1 e.2.1).2.2, ⟨by omega, by omega, fun j _ => ⟨k.x 274 rfl j, k.x 275 rfl j⟩⟩, by rw [k.x 5 rfl]; exact Int.le_refl _, by rw [k.x 5 rfl]; exact Int.le_refl _, fun j _ => k.x 19 rfl j, by omega, fun c hc _ j => k.x _ (inK_i (a := 274) (b := 876) (by decide) (by omega) (by omega)) j⟩
theorem WI_t {l : List rec} {S T : sS} (hH : HI S) (h : FR l S T) (e1 : mdf l 1 3 = false) (e2 : dL l = true) (e3 : (kdis l kX && !(mdf l 20 1)) = true) (e4 : (kdis l [(5, 6), (19, 20), (274, 876)] && (!(mdf l 20 1) && (!(mdf l 246 8) && !(mdf l 246 5)))) = true) (e5 : kdis l [(5, 6), (11, 14)] = true) (e6 : (kdis l [(5, 6), (248, 272)] && !(mdf l 246 2)) = true) (e7 : (kdis l [(5, 6), (19, 20), (883, 884), (885, 887)] && !(mdf l 882 3)) = true) (e8 : kdis l [(8, 9)] = true) (e9 : kdis l [(19, 20), (5, 6)] = true) (ht : ∀ j, Xi T (txr S) j = Xi S (txr S) j) (hW : WI S) : WI T := by
  obtain ⟨w1, w2, w3, w4, w5, w6, w7, w8⟩ := hW
  have k5 := h.smk e5
  have g := FR_sGt hH h e4 ht
  have e6b := e6
  simp only [Bool.and_eq_true, Bool.not_eq_true'] at e6b
  have k6 := h.smk e6b.1
  have e4b := e4
  simp only [Bool.and_eq_true, Bool.not_eq_true'] at e4b
  have h24 : 0 ≤ Xi S 246 2 ∧ Xi S 246 2 ≤ 24 := hH.c _ _
  refine ⟨LEX_FR h e1 e2 w1, TX_FR h e3 w2, DEF_sGt hH g (fun a _ => ⟨k5.x 11 rfl a, k5.x 12 rfl a, k5.x 13 rfl a⟩) (fun a h1 h2 => by rw [k5.x 5 rfl] at h2; omega) w3, RUL_sGt hH g (fun i hi j => k6.x _ (inK_i (a := 248) (b := 272) (by decide) (by omega) (by omega)) j) (h.x 246 2 e6b.2) w4, CMD_FR h e7 w5, AK_FR h e9 w6, ?_, fun t => ?_⟩
  · unfold CC
    rw [h.x 246 5 e4b.2.2.2, h.x 246 2 e6b.2, k5.x 5 rfl]
    exact w7
  · rw [vals_fr (fun j => (h.smk e8).x 8 rfl j) (k5.x 5 rfl 4)]
    exact w8 t
/-- the class's side: its tape, its story's row, all that holds between sentences -/
def CLI (S : sS) (ts tq : Nat) : Prop := (S.2.2 0 8 = some ts ∧ S.2.2 0 9 = some tq ∧ tp ts ∧ tp tq ∧ ts ≠ tq ∧ txr S ≠ ts ∧ 0 < txr S) ∧ WI S ∧ ORD S
/-- the reference's side -/
def MOI (S : sS) : Prop := TIX S ∧ PF S ∧ BDA S ∧ KWM S
def INV (S : sS) : Prop := HI S ∧ (∃ ts tq, CLI S ts tq) ∧ MOI S
theorem CLI_FR {l : List rec} {S T : sS} {ts tq : Nat} (h : FR l S T) (e : (!(mdf l 0 8) && (!(mdf l 0 9) && !(mdf l 20 1))) = true) (hW : WI T) (hO : ORD T) (c : CLI S ts tq) : CLI T ts tq := by
  simp only [Bool.and_eq_true, Bool.not_eq_true'] at e
  obtain ⟨⟨c1, c2, c3, c4, c5, c6, c7⟩, _⟩ := c
  have et : txr T = txr S := by unfold txr; rw [(h 20 1 e.2.2).2.2]
  exact ⟨⟨(h 0 8 e.1).2.2.trans c1, (h 0 9 e.2.1).2.2.trans c2, c3, c4, c5, by rw [et]; exact c6, by rw [et]; exact c7⟩, hW, hO⟩
theorem cl_rs_feed__2 {S T : sS} {ts : Nat} {w : Int} {n : Int} {r : Option Value} (h : INV S) (h8 : S.2.2 0 8 = some ts) (q : Q_rs_feed__2 S ts w n r T) : INV T ∧ Xi T 904 1 = Xi S 904 1 := by
  obtain ⟨hH, ⟨us, uq, hc⟩, hm⟩ := h
  obtain ⟨hT, f, z, -, -, -, -, o⟩ := q
  obtain ⟨⟨a1, a2, a3, a4, a5, a6, a7, a8, a9, a10, a11, a12, a13⟩, b1, b2, b3⟩ := hm
  have e8 : us = ts := Option.some.inj (hc.1.1.symm.trans h8)
  have hx : ∀ j, Xi T (txr S) j = Xi S (txr S) j := fun j => o _ j hc.1.2.2.2.2.2.2 (by rw [← e8]; exact hc.1.2.2.2.2.2.1)
  exact ⟨⟨hT, ⟨us, uq, CLI_FR f rfl (WI_t hH f rfl rfl rfl rfl rfl rfl rfl rfl rfl hx hc.2.1) (ORD_FR f rfl hc.2.2) hc⟩, ⟨⟨TXM_FR f rfl a1, WYM_FR f rfl a2, LXM_FR f rfl a3, LCN_FR f rfl a4, ABV_FR f rfl a5, DCM_FR f rfl a6, VTM_FR f rfl a7, VCN_FR f rfl a8, WYD_FR f rfl a9, RDT_FR hH f rfl rfl rfl a10, AKR_FR f rfl a11, by rw [f.x 904 60 rfl, f.x 904 19 rfl]; exact a12, by rw [f.x 904 16 rfl]; exact a13⟩, PF_FR f rfl b1, BDA_FR f rfl b2, KWM_FR f rfl b3⟩⟩, f.x 904 1 rfl⟩
theorem cl_rs_wipe {S T : sS} {r : Option Value} (h : INV S) (q : Q_rs_wipe S r T) : INV T ∧ Xi T 904 1 = Xi S 904 1 := by
  obtain ⟨hH, ⟨us, uq, hc⟩, hm⟩ := h
  obtain ⟨hT, f, -⟩ := q
  obtain ⟨⟨a1, a2, a3, a4, a5, a6, a7, a8, a9, a10, a11, a12, a13⟩, b1, b2, b3⟩ := hm
  exact ⟨⟨hT, ⟨us, uq, CLI_FR f rfl (WI_FR hH f rfl rfl rfl rfl rfl rfl rfl rfl rfl hc.2.1) (ORD_FR f rfl hc.2.2) hc⟩, ⟨⟨TXM_FR f rfl a1, WYM_FR f rfl a2, LXM_FR f rfl a3, LCN_FR f rfl a4, ABV_FR f rfl a5, DCM_FR f rfl a6, VTM_FR f rfl a7, VCN_FR f rfl a8, WYD_FR f rfl a9, RDT_FR hH f rfl rfl rfl a10, AKR_FR f rfl a11, by rw [f.x 904 60 rfl, f.x 904 19 rfl]; exact a12, by rw [f.x 904 16 rfl]; exact a13⟩, PF_FR f rfl b1, BDA_FR f rfl b2, KWM_FR f rfl b3⟩⟩, f.x 904 1 rfl⟩
theorem cl_rs_clear {S T : sS} {r : Option Value} (h : INV S) (q : Q_rs_clear S r T) : INV T ∧ Xi T 904 1 = Xi S 904 1 := by
  obtain ⟨hH, ⟨us, uq, hc⟩, hm⟩ := h
  obtain ⟨hT, f, -⟩ := q
  obtain ⟨⟨a1, a2, a3, a4, a5, a6, a7, a8, a9, a10, a11, a12, a13⟩, b1, b2, b3⟩ := hm
  exact ⟨⟨hT, ⟨us, uq, CLI_FR f rfl (WI_FR hH f rfl rfl rfl rfl rfl rfl rfl rfl rfl hc.2.1) (ORD_FR f rfl hc.2.2) hc⟩, ⟨⟨TXM_FR f rfl a1, WYM_FR f rfl a2, LXM_FR f rfl a3, LCN_FR f rfl a4, ABV_FR f rfl a5, DCM_FR f rfl a6, VTM_FR f rfl a7, VCN_FR f rfl a8, WYD_FR f rfl a9, RDT_FR hH f rfl rfl rfl a10, AKR_FR f rfl a11, by rw [f.x 904 60 rfl, f.x 904 19 rfl]; exact a12, by rw [f.x 904 16 rfl]; exact a13⟩, PF_FR f rfl b1, BDA_FR f rfl b2, KWM_FR f rfl b3⟩⟩, f.x 904 1 rfl⟩
theorem cl_rs_act {S T : sS} {action : Int} {noun : Int} {r : Option Value} (h : INV S) (q : Q_rs_act S action noun r T) : INV T ∧ Xi T 904 1 = Xi S 904 1 := by
  obtain ⟨hH, ⟨us, uq, hc⟩, hm⟩ := h
  obtain ⟨hT, f, z, -, -, x⟩ := q
  obtain ⟨⟨a1, a2, a3, a4, a5, a6, a7, a8, a9, a10, a11, a12, a13⟩, b1, b2, b3⟩ := hm
  exact ⟨⟨hT, ⟨us, uq, CLI_FR f rfl (WI_x hH f rfl rfl rfl rfl rfl rfl rfl rfl x hc.2.1) (ORD_FR f rfl hc.2.2) hc⟩, ⟨⟨TXM_FR f rfl a1, WYM_FR f rfl a2, LXM_FR f rfl a3, LCN_FR f rfl a4, ABV_FR f rfl a5, DCM_FR f rfl a6, VTM_FR f rfl a7, VCN_FR f rfl a8, WYD_FR f rfl a9, RDT_FR hH f rfl rfl rfl a10, AKR_FR f rfl a11, by rw [f.x 904 60 rfl, f.x 904 19 rfl]; exact a12, by rw [f.x 904 16 rfl]; exact a13⟩, PF_FR f rfl b1, BDA_FR f rfl b2, KWM_FR f rfl b3⟩⟩, f.x 904 1 rfl⟩
theorem cl_rs_command__2 {S T : sS} {r : Option Value} (h : INV S) (q : Q_rs_command__2 S r T) : INV T ∧ Xi T 904 1 = Xi S 904 1 := by
  obtain ⟨hH, ⟨us, uq, hc⟩, hm⟩ := h
  obtain ⟨hT, f, z, -, -, x, -⟩ := q
  obtain ⟨⟨a1, a2, a3, a4, a5, a6, a7, a8, a9, a10, a11, a12, a13⟩, b1, b2, b3⟩ := hm
  exact ⟨⟨hT, ⟨us, uq, CLI_FR f rfl (WI_x hH f rfl rfl rfl rfl rfl rfl rfl rfl x hc.2.1) (ORD_FR f rfl hc.2.2) hc⟩, ⟨⟨TXM_FR f rfl a1, WYM_FR f rfl a2, LXM_FR f rfl a3, LCN_FR f rfl a4, ABV_FR f rfl a5, DCM_FR f rfl a6, VTM_FR f rfl a7, VCN_FR f rfl a8, WYD_FR f rfl a9, RDT_FR hH f rfl rfl rfl a10, AKR_FR f rfl a11, by rw [f.x 904 60 rfl, f.x 904 19 rfl]; exact a12, by rw [f.x 904 16 rfl]; exact a13⟩, PF_FR f rfl b1, BDA_FR f rfl b2, KWM_FR f rfl b3⟩⟩, f.x 904 1 rfl⟩
theorem cl_rs_read__2 {S T : sS} {ts : Nat} {tq : Nat} {r : Option Value} (h : INV S) (h8 : S.2.2 0 8 = some ts) (h9 : S.2.2 0 9 = some tq) (q : Q_rs_read__2 S ts tq r T) : INV T ∧ Xi T 904 1 = Xi S 904 1 := by
  obtain ⟨hH, ⟨us, uq, hc⟩, hm⟩ := h
  obtain ⟨hT, f, z, -, -, w, o, x8, x9, x20, -, -⟩ := q
  obtain ⟨⟨a1, a2, a3, a4, a5, a6, a7, a8, a9, a10, a11, a12, a13⟩, b1, b2, b3⟩ := hm
  obtain ⟨⟨c1, c2, c3, c4, c5, c6, c7⟩, -⟩ := hc
  have e8 : us = ts := Option.some.inj (c1.symm.trans h8)
  have e9 : uq = tq := Option.some.inj (c2.symm.trans h9)
  subst e8; subst e9
  have et : txr T = us := by unfold txr; rw [x20]; rfl
  exact ⟨⟨hT, ⟨uq, us, ⟨x8, x9, c4, c3, fun e => c5 e.symm, by rw [et]; exact c5, by rw [et]; rcases c3 with e | e <;> omega⟩, w, o⟩, ⟨⟨TXM_FR f rfl a1, WYM_FR f rfl a2, LXM_FR f rfl a3, LCN_FR f rfl a4, ABV_FR f rfl a5, DCM_FR f rfl a6, VTM_FR f rfl a7, VCN_FR f rfl a8, WYD_FR f rfl a9, RDT_FR hH f rfl rfl rfl a10, AKR_FR f rfl a11, by rw [f.x 904 60 rfl, f.x 904 19 rfl]; exact a12, by rw [f.x 904 16 rfl]; exact a13⟩, PF_FR f rfl b1, BDA_FR f rfl b2, KWM_FR f rfl b3⟩⟩, f.x 904 1 rfl⟩
theorem lm_mo_feed {S T : sS} {w : Int} {n : Int} {r : Option Value} (h : INV S) (q : Q_mo_feed S w n r T) : INV T ∧ Xi T 0 10 = Xi S 0 10 := by
  obtain ⟨hH, ⟨us, uq, hc⟩, hm⟩ := h
  obtain ⟨hT, f, -⟩ := q
  obtain ⟨⟨a1, a2, a3, a4, a5, a6, a7, a8, a9, a10, a11, a12, a13⟩, b1, b2, b3⟩ := hm
  exact ⟨⟨hT, ⟨us, uq, CLI_FR f rfl (WI_FR hH f rfl rfl rfl rfl rfl rfl rfl rfl rfl hc.2.1) (ORD_FR f rfl hc.2.2) hc⟩, ⟨⟨TXM_FR f rfl a1, WYM_FR f rfl a2, LXM_FR f rfl a3, LCN_FR f rfl a4, ABV_FR f rfl a5, DCM_FR f rfl a6, VTM_FR f rfl a7, VCN_FR f rfl a8, WYD_FR f rfl a9, RDT_FR hH f rfl rfl rfl a10, AKR_FR f rfl a11, by rw [f.x 904 60 rfl, f.x 904 19 rfl]; exact a12, by rw [f.x 904 16 rfl]; exact a13⟩, PF_FR f rfl b1, BDA_FR f rfl b2, KWM_FR f rfl b3⟩⟩, f.x 0 10 rfl⟩
theorem lm_mo_wipe {S T : sS} {r : Option Value} (h : INV S) (q : Q_mo_wipe S r T) : INV T ∧ Xi T 0 10 = Xi S 0 10 := by
  obtain ⟨hH, ⟨us, uq, hc⟩, hm⟩ := h
  obtain ⟨hT, f, -⟩ := q
  obtain ⟨⟨a1, a2, a3, a4, a5, a6, a7, a8, a9, a10, a11, a12, a13⟩, b1, b2, b3⟩ := hm
  exact ⟨⟨hT, ⟨us, uq, CLI_FR f rfl (WI_FR hH f rfl rfl rfl rfl rfl rfl rfl rfl rfl hc.2.1) (ORD_FR f rfl hc.2.2) hc⟩, ⟨⟨TXM_FR f rfl a1, WYM_FR f rfl a2, LXM_FR f rfl a3, LCN_FR f rfl a4, ABV_FR f rfl a5, DCM_FR f rfl a6, VTM_FR f rfl a7, VCN_FR f rfl a8, WYD_FR f rfl a9, RDT_FR hH f rfl rfl rfl a10, AKR_FR f rfl a11, by rw [f.x 904 60 rfl, f.x 904 19 rfl]; exact a12, by rw [f.x 904 16 rfl]; exact a13⟩, PF_FR f rfl b1, BDA_FR f rfl b2, KWM_FR f rfl b3⟩⟩, f.x 0 10 rfl⟩
theorem lm_mo_clear {S T : sS} {r : Option Value} (h : INV S) (q : Q_mo_clear S r T) : INV T ∧ Xi T 0 10 = Xi S 0 10 := by
  obtain ⟨hH, ⟨us, uq, hc⟩, hm⟩ := h
  obtain ⟨hT, f, -⟩ := q
  obtain ⟨⟨a1, a2, a3, a4, a5, a6, a7, a8, a9, a10, a11, a12, a13⟩, b1, b2, b3⟩ := hm
  exact ⟨⟨hT, ⟨us, uq, CLI_FR f rfl (WI_FR hH f rfl rfl rfl rfl rfl rfl rfl rfl rfl hc.2.1) (ORD_FR f rfl hc.2.2) hc⟩, ⟨⟨TXM_FR f rfl a1, WYM_FR f rfl a2, LXM_FR f rfl a3, LCN_FR f rfl a4, ABV_FR f rfl a5, DCM_FR f rfl a6, VTM_FR f rfl a7, VCN_FR f rfl a8, WYD_FR f rfl a9, RDT_FR hH f rfl rfl rfl a10, AKR_FR f rfl a11, by rw [f.x 904 60 rfl, f.x 904 19 rfl]; exact a12, by rw [f.x 904 16 rfl]; exact a13⟩, PF_FR f rfl b1, BDA_FR f rfl b2, KWM_FR f rfl b3⟩⟩, f.x 0 10 rfl⟩
theorem lm_mo_is {S T : sS} {o : Int} {a : Int} {r : Option Value} (h : INV S) (q : Q_mo_is S o a r T) : INV T ∧ Xi T 0 10 = Xi S 0 10 := by
  obtain ⟨hH, ⟨us, uq, hc⟩, hm⟩ := h
  obtain ⟨hT, f, -⟩ := q
  obtain ⟨⟨a1, a2, a3, a4, a5, a6, a7, a8, a9, a10, a11, a12, a13⟩, b1, b2, b3⟩ := hm
  exact ⟨⟨hT, ⟨us, uq, CLI_FR f rfl (WI_FR hH f rfl rfl rfl rfl rfl rfl rfl rfl rfl hc.2.1) (ORD_FR f rfl hc.2.2) hc⟩, ⟨⟨TXM_FR f rfl a1, WYM_FR f rfl a2, LXM_FR f rfl a3, LCN_FR f rfl a4, ABV_FR f rfl a5, DCM_FR f rfl a6, VTM_FR f rfl a7, VCN_FR f rfl a8, WYD_FR f rfl a9, RDT_FR hH f rfl rfl rfl a10, AKR_FR f rfl a11, by rw [f.x 904 60 rfl, f.x 904 19 rfl]; exact a12, by rw [f.x 904 16 rfl]; exact a13⟩, PF_FR f rfl b1, BDA_FR f rfl b2, KWM_FR f rfl b3⟩⟩, f.x 0 10 rfl⟩
theorem lm_mo_property_2 {S T : sS} {o : Int} {p : Int} {r : Option Value} (h : INV S) (q : Q_mo_property_2 S o p r T) : INV T ∧ Xi T 0 10 = Xi S 0 10 := by
  obtain ⟨hH, ⟨us, uq, hc⟩, hm⟩ := h
  obtain ⟨hT, f, -⟩ := q
  obtain ⟨⟨a1, a2, a3, a4, a5, a6, a7, a8, a9, a10, a11, a12, a13⟩, b1, b2, b3⟩ := hm
  exact ⟨⟨hT, ⟨us, uq, CLI_FR f rfl (WI_FR hH f rfl rfl rfl rfl rfl rfl rfl rfl rfl hc.2.1) (ORD_FR f rfl hc.2.2) hc⟩, ⟨⟨TXM_FR f rfl a1, WYM_FR f rfl a2, LXM_FR f rfl a3, LCN_FR f rfl a4, ABV_FR f rfl a5, DCM_FR f rfl a6, VTM_FR f rfl a7, VCN_FR f rfl a8, WYD_FR f rfl a9, RDT_FR hH f rfl rfl rfl a10, AKR_FR f rfl a11, by rw [f.x 904 60 rfl, f.x 904 19 rfl]; exact a12, by rw [f.x 904 16 rfl]; exact a13⟩, PF_FR f rfl b1, BDA_FR f rfl b2, KWM_FR f rfl b3⟩⟩, f.x 0 10 rfl⟩
theorem lm_mo_letter {S T : sS} {o : Int} {p : Int} {k : Int} {r : Option Value} (h : INV S) (q : Q_mo_letter S o p k r T) : INV T ∧ Xi T 0 10 = Xi S 0 10 := by
  obtain ⟨hH, ⟨us, uq, hc⟩, hm⟩ := h
  obtain ⟨hT, f, -⟩ := q
  obtain ⟨⟨a1, a2, a3, a4, a5, a6, a7, a8, a9, a10, a11, a12, a13⟩, b1, b2, b3⟩ := hm
  exact ⟨⟨hT, ⟨us, uq, CLI_FR f rfl (WI_FR hH f rfl rfl rfl rfl rfl rfl rfl rfl rfl hc.2.1) (ORD_FR f rfl hc.2.2) hc⟩, ⟨⟨TXM_FR f rfl a1, WYM_FR f rfl a2, LXM_FR f rfl a3, LCN_FR f rfl a4, ABV_FR f rfl a5, DCM_FR f rfl a6, VTM_FR f rfl a7, VCN_FR f rfl a8, WYD_FR f rfl a9, RDT_FR hH f rfl rfl rfl a10, AKR_FR f rfl a11, by rw [f.x 904 60 rfl, f.x 904 19 rfl]; exact a12, by rw [f.x 904 16 rfl]; exact a13⟩, PF_FR f rfl b1, BDA_FR f rfl b2, KWM_FR f rfl b3⟩⟩, f.x 0 10 rfl⟩
theorem lm_mo_act {S T : sS} {a : Int} {noun : Int} {r : Option Value} (h : INV S) (q : Q_mo_act S a noun r T) : INV T ∧ Xi T 0 10 = Xi S 0 10 := by
  obtain ⟨hH, ⟨us, uq, hc⟩, hm⟩ := h
  obtain ⟨hT, f, z, -, -, x, w⟩ := q
  obtain ⟨⟨a1, a2, a3, a4, a5, a6, a7, a8, a9, a10, a11, a12, a13⟩, b1, b2, b3⟩ := hm
  exact ⟨⟨hT, ⟨us, uq, CLI_FR f rfl (WI_FR hH f rfl rfl rfl rfl rfl rfl rfl rfl rfl hc.2.1) (ORD_FR f rfl hc.2.2) hc⟩, ⟨⟨x, w, LXM_FR f rfl a3, LCN_FR f rfl a4, ABV_FR f rfl a5, DCM_FR f rfl a6, VTM_FR f rfl a7, VCN_FR f rfl a8, WYD_FR f rfl a9, RDT_FR hH f rfl rfl rfl a10, AKR_FR f rfl a11, by rw [f.x 904 60 rfl, f.x 904 19 rfl]; exact a12, by rw [f.x 904 16 rfl]; exact a13⟩, PF_FR f rfl b1, BDA_FR f rfl b2, KWM_FR f rfl b3⟩⟩, f.x 0 10 rfl⟩
theorem lm_mo_command__2 {S T : sS} {r : Option Value} (h : INV S) (q : Q_mo_command__2 S r T) : INV T ∧ Xi T 0 10 = Xi S 0 10 := by
  obtain ⟨hH, ⟨us, uq, hc⟩, hm⟩ := h
  obtain ⟨hT, f, z, -, -, x, w, -⟩ := q
  obtain ⟨⟨a1, a2, a3, a4, a5, a6, a7, a8, a9, a10, a11, a12, a13⟩, b1, b2, b3⟩ := hm
  exact ⟨⟨hT, ⟨us, uq, CLI_FR f rfl (WI_FR hH f rfl rfl rfl rfl rfl rfl rfl rfl rfl hc.2.1) (ORD_FR f rfl hc.2.2) hc⟩, ⟨⟨x, w, LXM_FR f rfl a3, LCN_FR f rfl a4, ABV_FR f rfl a5, DCM_FR f rfl a6, VTM_FR f rfl a7, VCN_FR f rfl a8, WYD_FR f rfl a9, RDT_FR hH f rfl rfl rfl a10, AKR_FR f rfl a11, by rw [f.x 904 60 rfl, f.x 904 19 rfl]; exact a12, by rw [f.x 904 16 rfl]; exact a13⟩, PF_FR f rfl b1, BDA_FR f rfl b2, KWM_FR f rfl b3⟩⟩, f.x 0 10 rfl⟩
theorem lm_mo_read__2 {S T : sS} {r : Option Value} (h : INV S) (q : Q_mo_read__2 S r T) : INV T ∧ Xi T 0 10 = Xi S 0 10 := by
  obtain ⟨hH, ⟨us, uq, hc⟩, hm⟩ := h
  obtain ⟨hT, f, z, -, -, x, p, b, -⟩ := q
  obtain ⟨⟨a1, a2, a3, a4, a5, a6, a7, a8, a9, a10, a11, a12, a13⟩, b1, b2, b3⟩ := hm
  exact ⟨⟨hT, ⟨us, uq, CLI_FR f rfl (WI_FR hH f rfl rfl rfl rfl rfl rfl rfl rfl rfl hc.2.1) (ORD_FR f rfl hc.2.2) hc⟩, ⟨x, p, b, KWM_FR f rfl b3⟩⟩, f.x 0 10 rfl⟩


