section
/-! WHAT IS REMEMBERED WHILE TESTS ARE ASKED (the class's tables asked and found): it changes nothing that anything else reads -/
theorem RW_996 {S : sS} {i : Nat} (h : HI S) (hi : i < 8) : S.2.2 996 i = some (997 + i) := h.rw 996 997 8 i (by decide) hi
theorem lay_997 {i : Nat} (h : i < 8) : lay0 (997 + i) = (1, 24) := by
  have a : ∀ i, i < 8 → lay0 (997 + i) = (1, 24) := by decide +kernel
  exact a i h
theorem RW_1005 {S : sS} {i : Nat} (h : HI S) (hi : i < 8) : S.2.2 1005 i = some (1006 + i) := h.rw 1005 1006 8 i (by decide) hi
theorem lay_1006 {i : Nat} (h : i < 8) : lay0 (1006 + i) = (1, 24) := by
  have a : ∀ i, i < 8 → lay0 (1006 + i) = (1, 24) := by decide +kernel
  exact a i h
theorem lh_hi {k j : Nat} (h : 996 ≤ k) : lh k j = fullR := by
  have f : ∀ a, a ≤ 995 → Nat.blt k a = false := fun a ha => Bool.eq_false_iff.mpr (fun q => by have := Nat.le_of_ble_eq_true q; omega)
  have e1 : Nat.beq k 904 = false := Bool.eq_false_iff.mpr (fun q => by have := Nat.eq_of_beq_eq_true q; omega)
  have e2 : Nat.beq 993 k = false := Bool.eq_false_iff.mpr (fun q => by have := Nat.eq_of_beq_eq_true q; omega)
  have b : lhA k j = fullR := by
    unfold lhA
    rw [f 904 (by decide), e1]
    show lhC (lBs k) k j = fullR
    unfold lBs
    rw [f 952 (by decide), f 976 (by decide), f 992 (by decide)]
    show lhC lB11 k j = fullR
    unfold lhC lB11
    show (match (bif Nat.beq 993 k then some [((-128 : Int), (127 : Int))] else none) with | some [r] => r | some rs => rs.getD j fullR | none => fullR) = fullR
    rw [e2]
    rfl
  unfold lh
  rw [f 196 (by decide), f 220 (by decide), f 248 (by decide), f 272 (by decide), f 276 (by decide), f 876 (by decide)]
  exact b
theorem lh_row997 {i j : Nat} (_ : i < 8) : lh (997 + i) j = fullR := lh_hi (by omega)
theorem lh_row1006 {i j : Nat} (_ : i < 8) : lh (1006 + i) j = fullR := lh_hi (by omega)
def zcM : List rec := [(997, 1005, 0, 100000), (1006, 1014, 0, 100000)]
/-- the state with nothing remembered -/
def zcS (S : sS) : sS := (fun k j => bif mdf zcM k j then 0 else S.1 k j, fun k j => bif mdf zcM k j then 0 else S.2.1 k j, fun k j => bif mdf zcM k j then none else S.2.2 k j)
theorem zc_of {S T : sS} (F : FR zcM S T) : zcS T = zcS S := by
  have e1 : (zcS T).1 = (zcS S).1 := funext fun k => funext fun j => by
    show (bif mdf zcM k j then (0 : Int32) else T.1 k j) = bif mdf zcM k j then (0 : Int32) else S.1 k j
    cases h : mdf zcM k j with
    | true => rfl
    | false => exact (F k j h).1
  have e2 : (zcS T).2.1 = (zcS S).2.1 := funext fun k => funext fun j => by
    show (bif mdf zcM k j then (0 : Int64) else T.2.1 k j) = bif mdf zcM k j then (0 : Int64) else S.2.1 k j
    cases h : mdf zcM k j with
    | true => rfl
    | false => exact (F k j h).2.1
  have e3 : (zcS T).2.2 = (zcS S).2.2 := funext fun k => funext fun j => by
    show (bif mdf zcM k j then (none : Option Nat) else T.2.2 k j) = bif mdf zcM k j then (none : Option Nat) else S.2.2 k j
    cases h : mdf zcM k j with
    | true => rfl
    | false => exact (F k j h).2.2
  exact Prod.ext e1 (Prod.ext e2 e3)
theorem zc_fr {S : sS} : FR zcM S (zcS S) := fun k j h => by
  refine ⟨?_, ?_, ?_⟩
  · show (bif mdf zcM k j then (0 : Int32) else S.1 k j) = S.1 k j
    rw [h]; rfl
  · show (bif mdf zcM k j then (0 : Int64) else S.2.1 k j) = S.2.1 k j
    rw [h]; rfl
  · show (bif mdf zcM k j then (none : Option Nat) else S.2.2 k j) = S.2.2 k j
    rw [h]; rfl
theorem zc_md {k j : Nat} (h : k < 997) : mdf zcM k j = false := by
  have e1 : Nat.ble 997 k = false := Bool.eq_false_iff.mpr (fun q => by have := Nat.le_of_ble_eq_true q; omega)
  have e2 : Nat.ble 1006 k = false := Bool.eq_false_iff.mpr (fun q => by have := Nat.le_of_ble_eq_true q; omega)
  show ((Nat.ble 997 k && (Nat.blt k 1005 && (Nat.ble 0 j && Nat.blt j 100000))) || ((Nat.ble 1006 k && (Nat.blt k 1014 && (Nat.ble 0 j && Nat.blt j 100000))) || false)) = false
  rw [e1, e2]
  rfl
theorem zc_x {S : sS} {k j : Nat} (h : k < 997) : Xi (zcS S) k j = Xi S k j := zc_fr.x k j (zc_md h)
theorem zc_r {S : sS} : (zcS S).2.2 20 1 = S.2.2 20 1 := (zc_fr 20 1 (zc_md (by decide))).2.2
theorem zc_t {S : sS} : txr (zcS S) = txr S := by unfold txr; rw [zc_r]
theorem zc_w {S : sS} : XW S (zcS S) := ⟨fun c j hc => ⟨zc_x (by omega), by unfold Xj; rw [(zc_fr (S := S) c j (zc_md (by omega))).2.1]⟩, zc_t, fun ht j => by
  rw [zc_t]
  exact zc_x (by rcases ht with e | e <;> rw [e] <;> decide)⟩
theorem zc_tx {S : sS} (h : HI S) : txr S < 904 := by
  obtain ⟨t, e, c⟩ := h.1.2.2.2.2.1
  unfold txr
  rw [e]
  show t < 904
  rcases c with e | e | e <;> omega
theorem zc_isK {S : sS} {a b : Int} : isK (zcS S) a b = isK S a b := isKn_s7 (fun _ => zc_x (by decide))
theorem zc_hasn {S : sS} {a : Nat} (q : ∀ j : Nat, Xi S 6 j ≤ 15) : ∀ (f : Nat) (k s : Int), k ≤ 15 → hasn (zcS S) a f k s = hasn S a f k s
  | 0, _, _, _ => rfl
  | f + 1, k, s, hk => by
    unfold hasn
    by_cases z : k < 0 ∨ s ≠ 0
    · rw [if_pos z, if_pos z]
    · rw [if_neg z, if_neg z, zc_x (by decide), zc_x (k := 25 + (24 + k).toNat) (by omega), zc_hasn q f _ _ (q _)]
theorem zc_hasA {S : sS} (hH : HI S) {o a : Int} (ho : 0 ≤ o ∧ o ≤ 23) : hasA (zcS S) o a = hasA S o a := by
  unfold hasA hasS
  rw [zc_x (by decide), zc_x (k := 25 + o.toNat) (by omega), zc_x (k := 11) (by decide), zc_hasn (fun j => (show -1 ≤ Xi S 6 j ∧ Xi S 6 j ≤ 15 from hH.c _ _).2) _ _ _ (show 0 ≤ Xi S 21 o.toNat ∧ Xi S 21 o.toNat ≤ 15 from hH.c _ _).2]
theorem zc_smn {S : sS} {t : Nat} (ht : t < 904) {a b : Int} : ∀ (n : Nat) (i : Int), smn (zcS S) t a b n i = smn S t a b n i
  | 0, _ => rfl
  | n + 1, i => by
    show (if Xi (zcS S) t (a + i).toNat = Xi (zcS S) t (b + i).toNat then smn (zcS S) t a b n (i + 1) else 0) = if Xi S t (a + i).toNat = Xi S t (b + i).toNat then smn S t a b n (i + 1) else 0
    rw [zc_x (by omega), zc_x (by omega), zc_smn ht n]
theorem zc_smT {S : sS} (hH : HI S) {a n b m : Int} : smT (zcS S) a n b m = smT S a n b m := by
  unfold smT
  rw [zc_t, zc_smn (zc_tx hH)]
/-- a TEST says the same where nothing is remembered -/
theorem zc_hoC {S : sS} (hH : HI S) {b : Prop} {cl : Nat} {self : Int} (hcl : cl < 600) (hk : TSok S b cl) (hs : -1 ≤ self ∧ self ≤ 23) (hb : b → 0 ≤ self) {ah : Int → Int → Int} : hoC ah (zcS S) cl self = hoC ah S cl self := by
  have c : ∀ j, Xi (zcS S) (276 + cl) j = Xi S (276 + cl) j := fun j => zc_x (by omega)
  have c0 := clc0 hH hcl
  have c2 := clc2 hH hcl
  have k6 := hk.2
  have w : WHO b (Xi S (276 + cl) 2) → 0 ≤ whU self (Xi S (276 + cl) 2) ∧ whU self (Xi S (276 + cl) 2) ≤ 23 := fun h => by
    unfold whU
    rcases h with h | ⟨h, h2⟩
    · rw [if_neg (by omega)]; omega
    · rw [if_pos h]; exact ⟨hb h2, hs.2⟩
  have e : tvC ah (zcS S) cl self = tvC ah S cl self := by
    unfold tvC
    rw [c 0, c 2, c 3, c 4, c 5, c 6]
    by_cases f0 : Xi S (276 + cl) 0 = 0
    · rw [if_pos f0, if_pos f0]
    rw [if_neg f0, if_neg f0]
    by_cases f1 : Xi S (276 + cl) 0 = 1
    · rw [if_pos f1, if_pos f1, (vof_x (zc_w (S := S)) hH (w ((hk.1.2.1 (Or.inl f1)).1.1))).1]
    rw [if_neg f1, if_neg f1]
    by_cases f2 : Xi S (276 + cl) 0 = 2
    · rw [if_pos f2, if_pos f2, (vof_x (zc_w (S := S)) hH (w ((hk.1.2.2.1 (Or.inl f2)).1))).1]
    rw [if_neg f2, if_neg f2]
    by_cases f3 : Xi S (276 + cl) 0 = 3
    · rw [if_pos f3, if_pos f3, (vof_x (zc_w (S := S)) hH (w ((hk.1.2.2.1 (Or.inr (Or.inl f3))).1))).1]
    rw [if_neg f3, if_neg f3]
    by_cases f4 : Xi S (276 + cl) 0 = 4
    · have v := vof_x (p := (Xi S (276 + cl) 3).toNat) (zc_w (S := S)) hH (w ((hk.1.2.1 (Or.inr f4)).1.1))
      rw [if_pos f4, if_pos f4, v.1, v.2, zc_smT hH]
    rw [if_neg f4, if_neg f4]
    by_cases f5 : Xi S (276 + cl) 0 = 5
    · rw [if_pos f5, if_pos f5, zc_x (by decide), zc_x (by decide)]
    rw [if_neg f5, if_neg f5]
    have r := (hk.1.2.2.2.2.1 (by omega)).2.2
    unfold relF
    rw [zc_x (k := 189 + (Xi S (276 + cl) 3).toNat) (by omega)]
  unfold hoC
  rw [e, c 1]
theorem alT_01 {f : Nat → Int} : ∀ (n i : Nat), alT f n i = 0 ∨ alT f n i = 1
  | 0, _ => Or.inr rfl
  | n + 1, i => by
    show (if f i = 0 then 0 else alT f n (i + 1)) = 0 ∨ (if f i = 0 then 0 else alT f n (i + 1)) = 1
    by_cases h : f i = 0
    · rw [if_pos h]; exact Or.inl rfl
    · rw [if_neg h]; exact alT_01 n (i + 1)
theorem hasA_01 {S : sS} {o a : Int} : hasA S o a = 0 ∨ hasA S o a = 1 := by
  unfold hasA
  by_cases h : hasS S o a.toNat = 0
  · rw [if_pos h]; by_cases g : Xi S 11 a.toNat < a
    · rw [if_pos g]; exact Or.inr rfl
    · rw [if_neg g]; exact Or.inl rfl
  · rw [if_neg h]; by_cases g : 0 < hasS S o a.toNat
    · rw [if_pos g]; exact Or.inr rfl
    · rw [if_neg g]; exact Or.inl rfl
theorem ahC_01 {S : sS} {o a : Int} (f : Nat) : ahC S f o a = 0 ∨ ahC S f o a = 1 := by
  cases f with
  | zero =>
    unfold ahC
    by_cases h : Xi S 11 a.toNat = -1
    · rw [if_pos h]; exact Or.inl rfl
    · rw [if_neg h]; exact hasA_01
  | succ f =>
    unfold ahC
    by_cases h : Xi S 11 a.toNat = -1
    · rw [if_pos h]
      by_cases g : isK S (Xi S 21 o.toNat) (Xi S 10 a.toNat) = 0
      · rw [if_pos g]; exact Or.inl rfl
      · rw [if_neg g]; exact alT_01 _ _
    · rw [if_neg h]; exact hasA_01
/-- a DEFINED adjective, by its TESTS -/
theorem zc_ah {S : sS} {f : Nat} {o a : Int} (h : Xi S 11 a.toNat = -1) (g : isK S (Xi S 21 o.toNat) (Xi S 10 a.toNat) ≠ 0) : ahC (zcS S) (f + 1) o a = alT (fun i => hoC (ahC (zcS S) f) (zcS S) ((Xi S 12 a.toNat).toNat + i) o) (Xi S 13 a.toNat - 0).toNat 0 := by
  have k : isK (zcS S) (Xi (zcS S) 21 o.toNat) (Xi (zcS S) 10 a.toNat) ≠ 0 := by rw [zc_isK, zc_x (by decide), zc_x (by decide)]; exact g
  rw [ahC_3 (by rw [zc_x (by decide)]; exact h) k, zc_x (k := 12) (by decide), zc_x (k := 13) (by decide)]
theorem alT_f {g : Nat → Int} {x v w : Int} (f1 : v ≠ 0 → alT g (x - 0).toNat 0 = alT g (x - w).toNat w.toNat) (f0 : v = 0 → alT g (x - 0).toNat 0 = 0) (hv : 0 ≤ v ∧ v ≤ 1) (h : v = 0 ∨ x ≤ w) : alT g (x - 0).toNat 0 = v := by
  by_cases q : v = 0
  · rw [f0 q, q]
  · rw [f1 q, alT_e (by omega)]; omega
/-- what is remembered of a depth's row, adjective and object -/
def CAE (W S : sS) (r b : Nat) (p : Int) : Prop := (gb (Xi S (997 + r) b) p = true ∧ (gb (Xi S (1006 + r) b) p = true ↔ ahC W (8 - r) p b ≠ 0)) ∨ (gb (Xi S (997 + r) b) p = false ∧ gb (Xi S (1006 + r) b) p = false)
/-- from depth d on all that is remembered is right -/
def CAC (W S : sS) (d : Int) : Prop := ∀ (r b : Nat) (p : Int), d ≤ r → r < 8 → b < 24 → 0 ≤ p → p ≤ 23 → CAE W S r b p
/-- the same but for what is asked just now -/
def CAD (W S : sS) (d a o : Int) : Prop := (∀ (r b : Nat) (p : Int), d ≤ r → r < 8 → b < 24 → 0 ≤ p → p ≤ 23 → ¬ ((r : Int) = d ∧ (b : Int) = a ∧ p = o) → CAE W S r b p) ∧ gb (Xi S (997 + d.toNat) a.toNat) o = true ∧ gb (Xi S (1006 + d.toNat) a.toNat) o = false
def CAP (S : sS) (d : Int) : Prop := 1 ≤ d → CAC (zcS S) S d
/-- rows of lower depths stay -/
def CAL (S T : sS) (d : Int) : Prop := ∀ (r j : Nat), (r : Int) < d → Xi T (997 + r) j = Xi S (997 + r) j ∧ Xi T (1006 + r) j = Xi S (1006 + r) j
theorem CAL.rf {S : sS} {d : Int} : CAL S S d := fun _ _ _ => ⟨rfl, rfl⟩
theorem CAL.tr {S T U : sS} {d e : Int} (h : CAL S T d) (h2 : CAL T U e) (le : d ≤ e) : CAL S U d := fun r j hr => by
  obtain ⟨a, b⟩ := h r j hr
  obtain ⟨c, e⟩ := h2 r j (by omega)
  exact ⟨c.trans a, e.trans b⟩
theorem cap_0 {S : sS} : CAP S 0 := fun h => absurd h (by decide)
/-- nothing is remembered -/
def ZRW (S : sS) (n : Int) : Prop := ∀ (r b : Nat), (r : Int) < n → b < 24 → Xi S (997 + r) b = 0 ∧ Xi S (1006 + r) b = 0
def ZRE (S : sS) (r : Int) (n : Int) : Prop := ∀ b : Nat, (b : Int) < n → Xi S (997 + r.toNat) b = 0 ∧ Xi S (1006 + r.toNat) b = 0
theorem zr_0 {S : sS} : ZRW S 0 := fun _ _ h => absurd h (by omega)
theorem ze_0 {S : sS} {r : Int} : ZRE S r 0 := fun _ h => absurd h (by omega)
theorem zr_s {S : sS} {r n : Int} (h : ZRW S r) (e : ZRE S r n) (hr : 0 ≤ r) (hn : 24 ≤ n) : ZRW S (r + 1) := fun q b hq hb => by
  by_cases x : (q : Int) < r
  · exact h q b x hb
  · have t := e b (by omega)
    rw [show r.toNat = q by omega] at t
    exact t
theorem zr_w {S T U : sS} {r n : Int} {k l : Nat} (h : ZRW S r) (hr : 0 ≤ r ∧ r < 8) (hn : 0 ≤ n) (ek : k = r.toNat) (el : l = n.toNat) (e1 : T = uI S (997 + k) l (Int32.ofInt 0)) (e2 : U = uI T (1006 + k) l (Int32.ofInt 0)) : ZRW U r := fun q b hq hb => by
  obtain ⟨x, y⟩ := h q b hq hb
  subst ek
  rw [e2, e1]
  refine ⟨?_, ?_⟩
  · rw [Xi_ne (by omega), Xi_ne (by omega)]; exact x
  · rw [Xi_ne (by omega), Xi_ne (by omega)]; exact y
theorem ze_w {S T U : sS} {r n : Int} {k l : Nat} (h : ZRE S r n) (hr : 0 ≤ r ∧ r < 8) (hn : 0 ≤ n) (ek : k = r.toNat) (el : l = n.toNat) (e1 : T = uI S (997 + k) l (Int32.ofInt 0)) (e2 : U = uI T (1006 + k) l (Int32.ofInt 0)) : ZRE U r (n + 1) := fun b hb => by
  subst ek; subst el
  rw [e2, e1]
  by_cases c : (b : Int) < n
  · obtain ⟨x, y⟩ := h b c
    refine ⟨?_, ?_⟩
    · rw [Xi_ne (by omega), Xi_ne (by omega)]; exact x
    · rw [Xi_ne (by omega), Xi_ne (by omega)]; exact y
  · rw [show b = n.toNat by omega]
    refine ⟨?_, ?_⟩
    · rw [Xi_ne (by omega)]; exact Xi_same (by unfold rg; omega)
    · exact Xi_same (by unfold rg; omega)
theorem cac_0 {W S : sS} {d : Int} (h0 : 0 ≤ d) (h : ZRW S 8) : CAC W S d := fun r b p h1 h2 h3 h4 h5 => by
  obtain ⟨x, y⟩ := h r b (by omega) h3
  unfold CAE
  rw [x, y]
  exact Or.inr ⟨gb_0, gb_0⟩
theorem cae_e {W S T : sS} {r b : Nat} {p : Int} (e1 : Xi T (997 + r) b = Xi S (997 + r) b) (e2 : Xi T (1006 + r) b = Xi S (1006 + r) b) (h : CAE W S r b p) : CAE W T r b p := by
  unfold CAE
  rw [e1, e2]
  exact h
theorem ior_rg {x y : Int} : rg (iorF x y) := rg_toI
/-- a bit of its own -/
theorem bit_o {o p : Int} (ho : 0 ≤ o ∧ o ≤ 23) (hp : 0 ≤ p ∧ p ≤ 23) : gb (ishlF 1 o) p = decide (p = o) := gb_shl ⟨hp.1, by omega⟩ ⟨ho.1, by omega⟩
theorem bit_z {x o : Int} (ho : 0 ≤ o ∧ o ≤ 23) : iandF x (ishlF 1 o) = 0 ↔ gb x o = false := by
  constructor
  · intro h
    have t := gb_z.mp h o ho.1 (by omega)
    rw [gb_and, bit_o ho ho] at t
    simpa using t
  · intro h
    refine gb_z.mpr (fun p h1 h2 => ?_)
    rw [gb_and, gb_shl ⟨h1, h2⟩ ⟨ho.1, by omega⟩]
    by_cases e : p = o
    · rw [e, h]; rfl
    · simp [e]
theorem gb_t {x o : Int} (ho : 0 ≤ o ∧ o ≤ 23) (h : iandF x (ishlF 1 o) ≠ 0) : gb x o = true := by
  cases e : gb x o with
  | true => rfl
  | false => exact absurd ((bit_z ho).mpr e) h
theorem gb_f {x o : Int} (ho : 0 ≤ o ∧ o ≤ 23) (h : iandF x (ishlF 1 o) = 0) : gb x o = false := (bit_z ho).mp h
/-- it is asked: noted -/
theorem cad_i {W S T : sS} {d a o : Int} (h : CAC W S d) (hd : 0 ≤ d ∧ d < 8) (ha : 0 ≤ a ∧ a ≤ 23) (ho : 0 ≤ o ∧ o ≤ 23) (z : gb (Xi S (997 + d.toNat) a.toNat) o = false) (e : T = uI S (997 + d.toNat) a.toNat (Int32.ofInt (iorF (Xi S (997 + d.toNat) a.toNat) (ishlF 1 o)))) : CAD W T d a o := by
  have sm : Xi T (997 + d.toNat) a.toNat = iorF (Xi S (997 + d.toNat) a.toNat) (ishlF 1 o) := by rw [e]; exact Xi_same ior_rg
  have ot : ∀ k j, ¬ (k = 997 + d.toNat ∧ j = a.toNat) → Xi T k j = Xi S k j := fun k j q => by rw [e]; exact Xi_ne q
  have h0 : CAE W S d.toNat a.toNat o := h d.toNat a.toNat o (by omega) (by omega) (by omega) ho.1 ho.2
  refine ⟨fun r b p h1 h2 h3 h4 h5 ne => ?_, ?_, ?_⟩
  · have t := h r b p h1 h2 h3 h4 h5
    by_cases c : (r : Int) = d ∧ (b : Int) = a
    · have pn : p ≠ o := fun q => ne ⟨c.1, c.2, q⟩
      unfold CAE at t ⊢
      rw [show r = d.toNat by omega, show b = a.toNat by omega] at t ⊢
      rw [sm, gb_or, bit_o ho ⟨h4, h5⟩, ot (1006 + d.toNat) a.toNat (by omega)]
      simpa [pn] using t
    · exact cae_e (ot _ _ (by omega)) (ot _ _ (by omega)) t
  · rw [sm, gb_or, bit_o ho ho]; simp
  · rw [ot (1006 + d.toNat) a.toNat (by omega)]
    unfold CAE at h0
    rcases h0 with x | x
    · rw [z] at x; exact absurd x.1 (by decide)
    · exact x.2
/-- TESTS further in leave it so -/
theorem cad_s {W S T : sS} {d a o : Int} (hd : 0 ≤ d ∧ d < 8) (h : CAD W S d a o) (c : CAC W T (d + 1)) (l : CAL S T (d + 1)) : CAD W T d a o := by
  refine ⟨fun r b p h1 h2 h3 h4 h5 ne => ?_, ?_, ?_⟩
  · by_cases q : (r : Int) = d
    · obtain ⟨x, y⟩ := l r b (by omega)
      exact cae_e x y (h.1 r b p h1 h2 h3 h4 h5 ne)
    · exact c r b p (by omega) h2 h3 h4 h5
  · rw [(l d.toNat a.toNat (by omega)).1]; exact h.2.1
  · rw [(l d.toNat a.toNat (by omega)).2]; exact h.2.2
theorem cad_c {W S : sS} {d a o : Int} (h : CAD W S d a o) : CAC W S (d + 1) := fun r b p h1 h2 h3 h4 h5 => h.1 r b p (by omega) h2 h3 h4 h5 (by omega)
/-- it is found: noted -/
theorem cac_i {W S T : sS} {d a o x : Int} (h : CAD W S d a o) (hd : 0 ≤ d ∧ d < 8) (ha : 0 ≤ a ∧ a ≤ 23) (ho : 0 ≤ o ∧ o ≤ 23) (hx : (x = ishlF 1 o ∧ ahC W (8 - d).toNat o a ≠ 0) ∨ (x = 0 ∧ ahC W (8 - d).toNat o a = 0)) (e : T = uI S (1006 + d.toNat) a.toNat (Int32.ofInt (iorF (Xi S (1006 + d.toNat) a.toNat) x))) : CAC W T d := by
  have sm : Xi T (1006 + d.toNat) a.toNat = iorF (Xi S (1006 + d.toNat) a.toNat) x := by rw [e]; exact Xi_same ior_rg
  have ot : ∀ k j, ¬ (k = 1006 + d.toNat ∧ j = a.toNat) → Xi T k j = Xi S k j := fun k j q => by rw [e]; exact Xi_ne q
  intro r b p h1 h2 h3 h4 h5
  by_cases c : (r : Int) = d ∧ (b : Int) = a
  · by_cases pn : p = o
    · unfold CAE
      rw [show r = d.toNat by omega, show b = a.toNat by omega, pn, sm, gb_or, ot (997 + d.toNat) a.toNat (by omega), h.2.1, h.2.2, show 8 - d.toNat = (8 - d).toNat by omega, show ((a.toNat : Nat) : Int) = a by omega]
      rcases hx with ⟨x1, x2⟩ | ⟨x1, x2⟩
      · rw [x1, bit_o ho ho]; simp [x2]
      · rw [x1, gb_0]; simp [x2]
    · have t := h.1 r b p h1 h2 h3 h4 h5 (fun q => pn q.2.2)
      unfold CAE at t ⊢
      rw [show r = d.toNat by omega, show b = a.toNat by omega] at t ⊢
      rw [sm, gb_or, ot (997 + d.toNat) a.toNat (by omega)]
      have g : gb x p = false := by
        rcases hx with ⟨x1, _⟩ | ⟨x1, _⟩
        · rw [x1, bit_o ho ⟨h4, h5⟩]; simp [pn]
        · rw [x1, gb_0]
      rw [g, Bool.or_false]
      exact t
  · exact cae_e (ot _ _ (by omega)) (ot _ _ (by omega)) (h.1 r b p h1 h2 h3 h4 h5 (fun q => c ⟨q.1, q.2.1⟩))
/-- what is found is what holds -/
theorem cac_z {W S : sS} {d a o : Int} (h : CAC W S d) (hd : 0 ≤ d ∧ d < 8) (ha : 0 ≤ a ∧ a ≤ 23) (ho : 0 ≤ o ∧ o ≤ 23) (q : gb (Xi S (997 + d.toNat) a.toNat) o = true) : iandF (Xi S (1006 + d.toNat) a.toNat) (ishlF 1 o) ≠ 0 ↔ ahC W (8 - d).toNat o a ≠ 0 := by
  have t := h d.toNat a.toNat o (by omega) (by omega) (by omega) ho.1 ho.2
  unfold CAE at t
  rw [show 8 - d.toNat = (8 - d).toNat by omega, show ((a.toNat : Nat) : Int) = a by omega] at t
  rcases t with ⟨_, x⟩ | ⟨x, _⟩
  · rw [← x]
    have b := bit_z (x := Xi S (1006 + d.toNat) a.toNat) ho
    cases g : gb (Xi S (1006 + d.toNat) a.toNat) o with
    | true => rw [g] at b; simp at b; simp [b]
    | false => rw [g] at b; simp at b; simp [b]
  · rw [q] at x; exact absurd x (by decide)
theorem cal_w {S T U : sS} {d : Int} {k l : Nat} {v : Int32} (h : CAL S T d) (hk : k = 997 + d.toNat ∨ k = 1006 + d.toNat) (hd : 0 ≤ d ∧ d < 8) (e : U = uI T k l v) : CAL S U d := fun r j hr => by
  obtain ⟨x, y⟩ := h r j hr
  rw [e]
  exact ⟨by rw [Xi_ne (by omega)]; exact x, by rw [Xi_ne (by omega)]; exact y⟩
theorem caz_e {W S : sS} {d a o v : Int} (h : CAC W S d) (hd : 0 ≤ d ∧ d < 8) (ha : 0 ≤ a ∧ a ≤ 23) (ho : 0 ≤ o ∧ o ≤ 23) (e : v = ishlF 1 o) (q : gb (Xi S (997 + d.toNat) a.toNat) o = true) : (iandF (Xi S (1006 + d.toNat) a.toNat) v ≠ 0 → 1 = ahC W (8 - d).toNat o a) ∧ (iandF (Xi S (1006 + d.toNat) a.toNat) v = 0 → 0 = ahC W (8 - d).toNat o a) := by
  have t := cac_z h hd ha ho q
  have c := ahC_01 (S := W) (o := o) (a := a) (8 - d).toNat
  rw [e]
  refine ⟨fun x => ?_, fun x => ?_⟩
  · have := t.mp x
    omega
  · have : ¬ ahC W (8 - d).toNat o a ≠ 0 := fun y => absurd x (t.mpr y)
    omega
def md_tu_forget : List rec := [(997, 1005, 0, 100000), (1006, 1014, 0, 100000)]
abbrev Q_tu_forget (S : sS) : pst := fun r S1 => HI S1 ∧ FR md_tu_forget S S1 ∧ (r = none ∧ (ZRW S1 8))
set_option maxRecDepth 100000 in
theorem t_tu_forget {S : sS} (hH : HI S) (d : Nat) : Mt lay0 (d + 1) m_tu_forget [.ref 900] S (Q_tu_forget S) := by
  refine Mt_R rfl rfl ?_
  have hF : FR md_tu_forget S S := FR.rf
  have C2 : ∀ (n2 : Nat) (T1 : sS) (_ : HI T1) (_ : FR md_tu_forget S T1) (v1 : Int), (0 ≤ v1 ∧ v1 ≤ 8) → (ZRW T1 v1) → n2 = (9 - v1).toNat → Rl lay0 (d + 0) m_tu_forget 2 [(0, .ref 900), (1, iv v1)] [] T1 (Q_tu_forget S) := by
    intro n2
    induction n2 using Nat.strongRecOn with
    | ind n2 ih2 =>
      intro T1 hHT1 hFT1 v1 w1 zr2 hm2
      have C10 : ∀ (n10 : Nat) (T2 : sS) (_ : HI T2) (_ : FR md_tu_forget S T2) (v1 : Int) (v2 : Int), (0 ≤ v1 ∧ v1 ≤ 7) → (0 ≤ v2 ∧ v2 ≤ 24) → (ZRW T2 v1) → (ZRE T2 v1 v2) → ((9 - v1).toNat ≤ n2) → n10 = (25 - v2).toNat → Rl lay0 (d + 0) m_tu_forget 10 [(0, .ref 900), (1, iv v1), (2, iv v2)] [] T2 (Q_tu_forget S) := by
        intro n10
        induction n10 using Nat.strongRecOn with
        | ind n10 ih10 =>
          intro T2 hHT2 hFT2 v1 v2 w2 w3 zr10 ze10 w4 hm10
          refine l_iload_n rfl rfl ?_
          refine l_bipush rfl rfl ?_
          refine l_icmp_ge rfl rfl (by unfold rg; omega) (by unfold rg; omega) (fun w5 => ?_) (fun w6 => ?_)
          · refine l_iinc rfl rfl rfl rfl ?_
            refine l_goto rfl rfl ?_
            exact Rl_weak (ih2 _ (by omega) T2 hHT2 hFT2 ((v1 + 1)) (by omega) (by first | exact zr_0 | exact zr_s zr10 ze10 (by omega) (by omega)) rfl) (And.intro rfl (And.intro rfl (True.intro)))
          · refine l_aload_n rfl rfl ?_
            refine l_gfr rfl rfl rfl rfl rfl (hHT2.r 900 7 996 rfl) ?_
            refine l_iload_n rfl rfl ?_
            refine l_aaload (n := 8) (a := 997 + (v1).toNat) rfl rfl (by decide) (by omega) (by omega) (by unfold rg; omega) (RW_996 hHT2 (by omega)) ?_
            refine l_iload_n rfl rfl ?_
            refine l_iconst rfl ?_
            refine l_iastore (n := 24) rfl (lay_997 (by omega)) (by omega) (by omega) (by unfold rg; omega) ?_
            obtain ⟨U3, eU3⟩ : ∃ T : sS, T = uI T2 (997 + (v1).toNat) ((v2).toNat) (Int32.ofInt 0) := ⟨_, rfl⟩
            rw [← eU3]
            have hHU3 : HI U3 := by rw [eU3]; exact HI_any hHT2 (lh_row997 (by omega))
            have hFU3 : FR md_tu_forget S U3 := by rw [eU3]; exact FR.wI hFT2 (mdf_i (r := (997, 1005, 0, 100000)) (List.mem_of_getElem? (i := 0) rfl) (inR_i (by omega) (by omega) (by omega) (by omega)))
            have w7 : Xi U3 (997 + (v1).toNat) ((v2).toNat) = 0 := by rw [eU3]; exact Xi_same (by unfold rg; omega)
            refine l_aload_n rfl rfl ?_
            refine l_gfr rfl rfl rfl rfl rfl (hHU3.r 900 8 1005 rfl) ?_
            refine l_iload_n rfl rfl ?_
            refine l_aaload (n := 8) (a := 1006 + (v1).toNat) rfl rfl (by decide) (by omega) (by omega) (by unfold rg; omega) (RW_1005 hHU3 (by omega)) ?_
            refine l_iload_n rfl rfl ?_
            refine l_iconst rfl ?_
            refine l_iastore (n := 24) rfl (lay_1006 (by omega)) (by omega) (by omega) (by unfold rg; omega) ?_
            obtain ⟨U4, eU4⟩ : ∃ T : sS, T = uI U3 (1006 + (v1).toNat) ((v2).toNat) (Int32.ofInt 0) := ⟨_, rfl⟩
            rw [← eU4]
            have hHU4 : HI U4 := by rw [eU4]; exact HI_any hHU3 (lh_row1006 (by omega))
            have hFU4 : FR md_tu_forget S U4 := by rw [eU4]; exact FR.wI hFU3 (mdf_i (r := (1006, 1014, 0, 100000)) (List.mem_of_getElem? (i := 1) rfl) (inR_i (by omega) (by omega) (by omega) (by omega)))
            have w8 : Xi U4 (1006 + (v1).toNat) ((v2).toNat) = 0 := by rw [eU4]; exact Xi_same (by unfold rg; omega)
            refine l_iinc rfl rfl rfl rfl ?_
            refine l_goto rfl rfl ?_
            exact Rl_weak (ih10 _ (by omega) U4 hHU4 hFU4 (v1) ((v2 + 1)) (by omega) (by omega) (by first | exact zr2 | exact zr_w (n := v2) zr10 ⟨by omega, by omega⟩ (by omega) (by omega) (by omega) eU3 eU4) (by first | exact ze_0 | exact ze_w ze10 ⟨by omega, by omega⟩ (by omega) (by omega) (by omega) eU3 eU4) (by omega) rfl) (And.intro rfl (And.intro rfl (And.intro rfl (True.intro))))
      refine l_iload_n rfl rfl ?_
      refine l_bipush rfl rfl ?_
      refine l_icmp_ge rfl rfl (by unfold rg; omega) (by unfold rg; omega) (fun w9 => ?_) (fun w10 => ?_)
      · refine l_return rfl rfl ?_
        exact ⟨hHT1, hFT1, rfl, (by have t := zr2; rw [show v1 = 8 by omega] at t; exact t)⟩
      · refine l_iconst rfl ?_
        refine l_istore_n rfl rfl rfl ?_
        exact Rl_weak (C10 _ T1 hHT1 hFT1 (v1) (0) (by omega) (by omega) (by first | exact zr2 | exact zr_w (n := v2) zr10 ⟨by omega, by omega⟩ (by omega) (by omega) (by omega)  rfl) (by first | exact ze_0 | exact ze_w ze10 ⟨by omega, by omega⟩ (by omega) (by omega) (by omega)  rfl) (by omega) rfl) (And.intro rfl (And.intro rfl (And.intro rfl (True.intro))))
  refine l_iconst rfl ?_
  refine l_istore_n rfl rfl rfl ?_
  exact Rl_weak (C2 _ S hH hF (0) (by omega) (by first | exact zr_0 | exact zr_s zr10 ze10 (by omega) (by omega)) rfl) (And.intro rfl (And.intro rfl (True.intro)))
def md_tu_holds__q : List rec := [(997, 1005, 0, 100000), (1006, 1014, 0, 100000)]
abbrev Q_tu_holds__q (S : sS) (cl : Nat) (self : Int) (depth : Int) : pst := fun r S1 => HI S1 ∧ FR md_tu_holds__q S S1 ∧ (∃ z : Int, r = some (iv z) ∧ (0 ≤ z ∧ z ≤ 1) ∧ (z = hoC (ahC (zcS S) (8 - depth).toNat) (zcS S) cl self) ∧ (CAP S1 depth) ∧ (CAL S S1 depth))
def md_tu_adjectiveHolds__q : List rec := [(997, 1005, 0, 100000), (1006, 1014, 0, 100000)]
abbrev Q_tu_adjectiveHolds__q (S : sS) (o : Int) (a : Int) (dp : Int) : pst := fun r S1 => HI S1 ∧ FR md_tu_adjectiveHolds__q S S1 ∧ (∃ z : Int, r = some (iv z) ∧ (0 ≤ z ∧ z ≤ 1) ∧ (z = ahC (zcS S) (8 - dp).toNat o a) ∧ (CAP S1 dp) ∧ (CAL S S1 dp))
set_option maxRecDepth 100000 in
theorem u_tu_adjectiveHolds__q {S : sS} (hH : HI S) (o : Int) (a : Int) (dp : Int) (ho : 0 ≤ o ∧ o ≤ 23) (ha : 0 ≤ a ∧ a ≤ 23) (hdp : 0 ≤ dp ∧ dp ≤ 8) (ha2 : a < Xi S 5 3) (hD : DEF S) (hX : TX S) (hc : CAP S dp) (d : Nat) (hrec : ∀ {S : sS} (_ : HI S) (cl : Nat) (self : Int) (depth : Int) (hcl : cl < 600) (hself : -1 ≤ self ∧ self ≤ 23) (hdepth : 0 ≤ depth ∧ depth ≤ 8) (hk : TSok S (0 ≤ self) cl) (hD : DEF S) (hX : TX S) (hc : CAP S depth), (dp < 8 ∧ depth = dp + 1) → Mt lay0 (d + 8) m_tu_holds [.ref 900, .ref (276 + cl), iv self, iv depth] S (Q_tu_holds__q S cl self depth)) : Mt lay0 (d + 9) m_tu_adjectiveHolds [.ref 900, iv o, iv a, iv dp] S (Q_tu_adjectiveHolds__q S o a dp) := by
  refine Mt_R rfl rfl ?_
  have hF : FR md_tu_adjectiveHolds__q S S := FR.rf
  have w1 : 0 ≤ Xi S 5 3 ∧ Xi S 5 3 ≤ 24 := hH.c _ _
  have hdb : Xi S 11 a.toNat = -1 → 0 ≤ Xi S 12 a.toNat ∧ Xi S 12 a.toNat + Xi S 13 a.toNat ≤ 600 := fun h => DEF_b hD (by omega) ha2 h
  have C67 : ∀  (T1 : sS) (_ : HI T1) (_ : FR md_tu_adjectiveHolds__q S T1), (Xi S 11 a.toNat = -1) → (dp < 8) → (isK S (Xi S 21 o.toNat) (Xi S 10 a.toNat) ≠ 0) → (CAC (zcS S) T1 dp) → (CAL S T1 dp) → Rl lay0 (d + 8) m_tu_adjectiveHolds 67 [(0, .ref 900), (1, iv o), (2, iv a), (3, iv dp)] [] T1 (Q_tu_adjectiveHolds__q S o a dp) := by
    intro T1 hHT1 hFT1 w2 w3 g67 cac67 cal67
    have w4 : Xi T1 5 3 = Xi S 5 3 := hFT1.x _ _ rfl
    have C181 : ∀  (T2 : sS) (_ : HI T2) (_ : FR md_tu_adjectiveHolds__q S T2) (v4 : Int), (-2147483648 ≤ v4 ∧ v4 ≤ 2147483647) → (v4 = ishlF 1 o) → (CAC (zcS S) T2 dp) → (CAL S T2 dp) → (gb (Xi T2 (997 + dp.toNat) a.toNat) o = true) → Rl lay0 (d + 8) m_tu_adjectiveHolds 181 [(0, .ref 900), (2, iv a), (3, iv dp), (4, iv v4)] [] T2 (Q_tu_adjectiveHolds__q S o a dp) := by
      intro T2 hHT2 hFT2 v4 w5 w6 cac181 cal181 gbt
      have w7 : Xi T2 5 3 = Xi S 5 3 := hFT2.x _ _ rfl
      refine l_aload_n rfl rfl ?_
      have K181 := caz_e cac181 ⟨by omega, by omega⟩ ⟨by omega, by omega⟩ ho (show v4 = ishlF 1 o by omega) gbt
      refine l_gfr rfl rfl rfl rfl rfl (hHT2.r 900 8 1005 rfl) ?_
      refine l_iload_n rfl rfl ?_
      refine l_aaload (n := 8) (a := 1006 + (dp).toNat) rfl rfl (by decide) (by omega) (by omega) (by unfold rg; omega) (RW_1005 hHT2 (by omega)) ?_
      refine l_iload_n rfl rfl ?_
      refine l_iaload (n := 24) rfl (lay_1006 (by omega)) (by omega) (by omega) (by unfold rg; omega) ?_
      have w8 : -2147483648 ≤ (Xi T2 (1006 + (dp).toNat) ((a).toNat)) ∧ (Xi T2 (1006 + (dp).toNat) ((a).toNat)) ≤ 2147483647 := Xi_rgI
      refine l_iload rfl rfl ?_
      refine l_iandF rfl ?_
      have w9 : -2147483648 ≤ (iandF (Xi T2 (1006 + (dp).toNat) ((a).toNat)) v4) ∧ (iandF (Xi T2 (1006 + (dp).toNat) ((a).toNat)) v4) ≤ 2147483647 := iandF_rg
      refine l_if_eq rfl rfl (by unfold rg; omega) (fun w10 => ?_) (fun w11 => ?_)
      · refine l_iconst rfl ?_
        refine l_ireturn rfl rfl ?_
        exact ⟨hHT2, hFT2, _, rfl, ⟨by omega, by omega⟩, (by first | (have t := K19; rw [ahC_1 (by rw [zc_x (by decide)]; omega), zc_hasA hH ho]; exact q19) | (have t := K181; first | exact t.1 (by omega) | exact t.2 (by omega)) | (rw [show (8 - dp).toNat = 0 by omega]; exact (ahC_0 (by rw [zc_x (by decide)]; omega)).symm) | exact (ahC_2 (by rw [zc_x (by decide)]; omega) (by rw [zc_isK, zc_x (by decide), zc_x (by decide), ← q51]; omega)).symm), (by first | exact hc | exact fun _ => by rw [zc_of (show FR zcM S _ from hFT2)]; exact cac181), (by first | exact CAL.rf | exact cal181)⟩
      · refine l_iconst rfl ?_
        refine l_goto rfl rfl ?_
        refine l_ireturn rfl rfl ?_
        exact ⟨hHT2, hFT2, _, rfl, ⟨by omega, by omega⟩, (by first | (have t := K19; rw [ahC_1 (by rw [zc_x (by decide)]; omega), zc_hasA hH ho]; exact q19) | (have t := K181; first | exact t.1 (by omega) | exact t.2 (by omega)) | (rw [show (8 - dp).toNat = 0 by omega]; exact (ahC_0 (by rw [zc_x (by decide)]; omega)).symm) | exact (ahC_2 (by rw [zc_x (by decide)]; omega) (by rw [zc_isK, zc_x (by decide), zc_x (by decide), ← q51]; omega)).symm), (by first | exact hc | exact fun _ => by rw [zc_of (show FR zcM S _ from hFT2)]; exact cac181), (by first | exact CAL.rf | exact cal181)⟩
    have C105 : ∀ (n105 : Nat) (T3 : sS) (_ : HI T3) (_ : FR md_tu_adjectiveHolds__q S T3) (v4 : Int) (v5 : Int) (v6 : Int), (-2147483648 ≤ v4 ∧ v4 ≤ 2147483647) → (0 ≤ v5 ∧ v5 ≤ 1) → (0 ≤ v6 ∧ v6 ≤ 6) → (v4 = ishlF 1 o) → (CAD (zcS S) T3 dp a o) → (CAL S T3 dp) → (v5 ≠ 0 → alT (fun i => hoC (ahC (zcS S) (8 - (dp + 1)).toNat) (zcS S) ((Xi S 12 a.toNat).toNat + i) o) (Xi S 13 a.toNat - 0).toNat 0 = alT (fun i => hoC (ahC (zcS S) (8 - (dp + 1)).toNat) (zcS S) ((Xi S 12 a.toNat).toNat + i) o) (Xi S 13 a.toNat - v6).toNat v6.toNat) → (v5 = 0 → alT (fun i => hoC (ahC (zcS S) (8 - (dp + 1)).toNat) (zcS S) ((Xi S 12 a.toNat).toNat + i) o) (Xi S 13 a.toNat - 0).toNat 0 = 0) → n105 = (7 - v6).toNat → Rl lay0 (d + 8) m_tu_adjectiveHolds 105 [(0, .ref 900), (1, iv o), (2, iv a), (3, iv dp), (4, iv v4), (5, iv v5), (6, iv v6)] [] T3 (Q_tu_adjectiveHolds__q S o a dp) := by
      intro n105
      induction n105 using Nat.strongRecOn with
      | ind n105 ih105 =>
        intro T3 hHT3 hFT3 v4 v5 v6 w12 w13 w14 w15 cad105 cal105 f1 f0 hm105
        have w16 : Xi T3 5 3 = Xi S 5 3 := hFT3.x _ _ rfl
        have C159 : ∀  (T4 : sS) (_ : HI T4) (_ : FR md_tu_adjectiveHolds__q S T4) (v4 : Int) (v5 : Int), (-2147483648 ≤ v4 ∧ v4 ≤ 2147483647) → (0 ≤ v5 ∧ v5 ≤ 1) → (v4 = ishlF 1 o) → (CAD (zcS S) T4 dp a o) → (CAL S T4 dp) → (alT (fun i => hoC (ahC (zcS S) (8 - (dp + 1)).toNat) (zcS S) ((Xi S 12 a.toNat).toNat + i) o) (Xi S 13 a.toNat - 0).toNat 0 = v5) → Rl lay0 (d + 8) m_tu_adjectiveHolds 159 [(0, .ref 900), (2, iv a), (3, iv dp), (4, iv v4), (5, iv v5)] [] T4 (Q_tu_adjectiveHolds__q S o a dp) := by
          intro T4 hHT4 hFT4 v4 v5 w17 w18 w19 cad159 cal159 f9
          have w20 : Xi T4 5 3 = Xi S 5 3 := hFT4.x _ _ rfl
          refine l_aload_n rfl rfl ?_
          have A9 : ahC (zcS S) (8 - dp).toNat o a = v5 := by rw [show (8 - dp).toNat = (8 - (dp + 1)).toNat + 1 by omega, zc_ah (by omega) g67, f9]
          refine l_gfr rfl rfl rfl rfl rfl (hHT4.r 900 8 1005 rfl) ?_
          refine l_iload_n rfl rfl ?_
          refine l_aaload (n := 8) (a := 1006 + (dp).toNat) rfl rfl (by decide) (by omega) (by omega) (by unfold rg; omega) (RW_1005 hHT4 (by omega)) ?_
          refine l_iload_n rfl rfl ?_
          refine l_dup2 rfl rfl ?_
          refine l_iaload (n := 24) rfl (lay_1006 (by omega)) (by omega) (by omega) (by unfold rg; omega) ?_
          have w21 : -2147483648 ≤ (Xi T4 (1006 + (dp).toNat) ((a).toNat)) ∧ (Xi T4 (1006 + (dp).toNat) ((a).toNat)) ≤ 2147483647 := Xi_rgI
          refine l_iload rfl rfl ?_
          refine l_if_eq rfl rfl (by unfold rg; omega) (fun w22 => ?_) (fun w23 => ?_)
          · refine l_iconst rfl ?_
            refine l_iorF rfl ?_
            have w24 : -2147483648 ≤ (iorF (Xi T4 (1006 + (dp).toNat) ((a).toNat)) 0) ∧ (iorF (Xi T4 (1006 + (dp).toNat) ((a).toNat)) 0) ≤ 2147483647 := iorF_rg
            have w24b : (0 : Int) ≤ (Xi T4 (1006 + (dp).toNat) ((a).toNat)) → (0 : Int) ≤ 0 → 0 ≤ (iorF (Xi T4 (1006 + (dp).toNat) ((a).toNat)) 0) := iorF_nn (by unfold rg; omega) (by unfold rg; omega)
            refine l_iastore (n := 24) rfl (lay_1006 (by omega)) (by omega) (by omega) (by unfold rg; omega) ?_
            obtain ⟨U5, eU5⟩ : ∃ T : sS, T = uI T4 (1006 + (dp).toNat) ((a).toNat) (Int32.ofInt (iorF (Xi T4 (1006 + (dp).toNat) ((a).toNat)) 0)) := ⟨_, rfl⟩
            rw [← eU5]
            have hHU5 : HI U5 := by rw [eU5]; exact HI_any hHT4 (lh_row1006 (by omega))
            have hFU5 : FR md_tu_adjectiveHolds__q S U5 := by rw [eU5]; exact FR.wI hFT4 (mdf_i (r := (1006, 1014, 0, 100000)) (List.mem_of_getElem? (i := 1) rfl) (inR_i (by omega) (by omega) (by omega) (by omega)))
            have w25 : Xi U5 (1006 + (dp).toNat) ((a).toNat) = (iorF (Xi T4 (1006 + (dp).toNat) ((a).toNat)) 0) := by rw [eU5]; exact Xi_same (by unfold rg; omega)
            exact Rl_weak (C181 U5 hHU5 hFU5 (v4) (by omega) (by omega) (by first | exact cac67 | exact cac_i cad159 ⟨by omega, by omega⟩ ⟨by omega, by omega⟩ ho (by first | exact Or.inl ⟨by omega, by omega⟩ | exact Or.inr ⟨rfl, by omega⟩) eU5) (by first | exact cal67 | exact cal_w cal159 (Or.inr rfl) ⟨by omega, by omega⟩ eU5) (by first | exact gb_t ho (by omega) | (have t : Xi U5 (997 + dp.toNat) a.toNat = Xi T4 (997 + dp.toNat) a.toNat := (by rw [eU5]; exact Xi_ne (by omega)); rw [t]; exact cad159.2.1))) (And.intro rfl (And.intro rfl (And.intro rfl (And.intro rfl (True.intro)))))
          · refine l_iload rfl rfl ?_
            refine l_goto rfl rfl ?_
            refine l_iorF rfl ?_
            have w26 : -2147483648 ≤ (iorF (Xi T4 (1006 + (dp).toNat) ((a).toNat)) v4) ∧ (iorF (Xi T4 (1006 + (dp).toNat) ((a).toNat)) v4) ≤ 2147483647 := iorF_rg
            have w26b : (0 : Int) ≤ (Xi T4 (1006 + (dp).toNat) ((a).toNat)) → (0 : Int) ≤ v4 → 0 ≤ (iorF (Xi T4 (1006 + (dp).toNat) ((a).toNat)) v4) := iorF_nn (by unfold rg; omega) (by unfold rg; omega)
            refine l_iastore (n := 24) rfl (lay_1006 (by omega)) (by omega) (by omega) (by unfold rg; omega) ?_
            obtain ⟨U6, eU6⟩ : ∃ T : sS, T = uI T4 (1006 + (dp).toNat) ((a).toNat) (Int32.ofInt (iorF (Xi T4 (1006 + (dp).toNat) ((a).toNat)) v4)) := ⟨_, rfl⟩
            rw [← eU6]
            have hHU6 : HI U6 := by rw [eU6]; exact HI_any hHT4 (lh_row1006 (by omega))
            have hFU6 : FR md_tu_adjectiveHolds__q S U6 := by rw [eU6]; exact FR.wI hFT4 (mdf_i (r := (1006, 1014, 0, 100000)) (List.mem_of_getElem? (i := 1) rfl) (inR_i (by omega) (by omega) (by omega) (by omega)))
            have w27 : Xi U6 (1006 + (dp).toNat) ((a).toNat) = (iorF (Xi T4 (1006 + (dp).toNat) ((a).toNat)) v4) := by rw [eU6]; exact Xi_same (by unfold rg; omega)
            exact Rl_weak (C181 U6 hHU6 hFU6 (v4) (by omega) (by omega) (by first | exact cac67 | exact cac_i cad159 ⟨by omega, by omega⟩ ⟨by omega, by omega⟩ ho (by first | exact Or.inl ⟨by omega, by omega⟩ | exact Or.inr ⟨rfl, by omega⟩) eU6) (by first | exact cal67 | exact cal_w cal159 (Or.inr rfl) ⟨by omega, by omega⟩ eU6) (by first | exact gb_t ho (by omega) | (have t : Xi U6 (997 + dp.toNat) a.toNat = Xi T4 (997 + dp.toNat) a.toNat := (by rw [eU6]; exact Xi_ne (by omega)); rw [t]; exact cad159.2.1))) (And.intro rfl (And.intro rfl (And.intro rfl (And.intro rfl (True.intro)))))
        refine l_iload rfl rfl ?_
        have h11 : Xi T3 11 a.toNat = Xi S 11 a.toNat := hFT3.x _ _ rfl
        have h12 : Xi T3 12 a.toNat = Xi S 12 a.toNat := hFT3.x _ _ rfl
        have h13 : Xi T3 13 a.toNat = Xi S 13 a.toNat := hFT3.x _ _ rfl
        refine l_aload_n rfl rfl ?_
        refine l_gfr rfl rfl rfl rfl rfl (hHT3.r 900 0 1 rfl) ?_
        refine l_gfr rfl rfl rfl rfl rfl (hHT3.r 1 12 13 rfl) ?_
        refine l_iload_n rfl rfl ?_
        refine l_iaload (n := 24) rfl rfl (by omega) (by omega) (by unfold rg; omega) ?_
        have w28 : 0 ≤ (Xi T3 13 ((a).toNat)) ∧ (Xi T3 13 ((a).toNat)) ≤ 6 := hHT3.c _ _
        refine l_icmp_ge rfl rfl (by unfold rg; omega) (by unfold rg; omega) (fun w29 => ?_) (fun w30 => ?_)
        · exact Rl_weak (C159 T3 hHT3 hFT3 (v4) (v5) (by omega) (by omega) (by omega) (cad105) (cal105) (alT_f f1 f0 ⟨by omega, by omega⟩ (by omega))) (And.intro rfl (And.intro rfl (And.intro rfl (And.intro rfl (And.intro rfl (True.intro))))))
        · refine l_iload rfl rfl ?_
          refine l_if_eq rfl rfl (by unfold rg; omega) (fun w31 => ?_) (fun w32 => ?_)
          · exact Rl_weak (C159 T3 hHT3 hFT3 (v4) (v5) (by omega) (by omega) (by omega) (cad105) (cal105) (alT_f f1 f0 ⟨by omega, by omega⟩ (by omega))) (And.intro rfl (And.intro rfl (And.intro rfl (And.intro rfl (And.intro rfl (True.intro))))))
          · refine l_aload_n rfl rfl ?_
            refine l_aload_n rfl rfl ?_
            refine l_gfr rfl rfl rfl rfl rfl (hHT3.r 900 2 246 rfl) ?_
            refine l_aload_n rfl rfl ?_
            refine l_gfr rfl rfl rfl rfl rfl (hHT3.r 900 0 1 rfl) ?_
            refine l_gfr rfl rfl rfl rfl rfl (hHT3.r 1 11 12 rfl) ?_
            refine l_iload_n rfl rfl ?_
            refine l_iaload (n := 24) rfl rfl (by omega) (by omega) (by unfold rg; omega) ?_
            have w33 : -2147483648 ≤ (Xi T3 12 ((a).toNat)) ∧ (Xi T3 12 ((a).toNat)) ≤ 2147483647 := Xi_rgI
            refine l_iload rfl rfl ?_
            refine l_iadd rfl ?_
            refine l_callV rfl rfl rfl (t_bo_clauseAt hHT3 ((Xi T3 12 ((a).toNat)) + v6) ⟨by omega, by omega⟩ _) ?_
            rintro _ _ ⟨rfl, z35, rfl, w35, w34⟩
            show Rl _ _ _ _ _ [.ref (276 + z35), .ref 900] _ _
            refine l_iload_n rfl rfl ?_
            refine l_iload_n rfl rfl ?_
            refine l_iconst rfl ?_
            refine l_iadd rfl ?_
            refine l_callV rfl rfl rfl (hrec hHT3 z35 o (dp + 1) (by omega) ⟨by omega, by omega⟩ ⟨by omega, by omega⟩ (DEF_at (a := a) (i := v6) (DEF_FR hH hFT3 rfl rfl (by assumption : DEF S)) (by omega) (by omega) (by omega) (by omega) (by omega) (by omega) (by omega)) (by first | assumption | exact (DEF_FR hH hFT3 rfl rfl (by assumption : DEF S))) (by first | assumption | exact (TX_FR hFT3 rfl (by assumption : TX S))) (fun _ => by rw [zc_of (show FR zcM S _ from hFT3)]; exact cad_c cad105) (by omega)) ?_
            rintro _ T7 ⟨hHT7, w37, z36, rfl, w36, q148, c148, l148⟩
            have hFT7 : FR md_tu_adjectiveHolds__q S T7 := FR.tr hFT3 w37 rfl
            show Rl _ _ _ _ _ [iv z36] _ _
            have Q148 : z36 = hoC (ahC (zcS S) (8 - (dp + 1)).toNat) (zcS S) ((Xi S 12 a.toNat).toNat + v6.toNat) o := by rw [q148, zc_of (show FR zcM S _ from hFT3)]; congr 1; omega
            refine l_istore rfl rfl rfl ?_
            refine l_iinc rfl rfl rfl rfl ?_
            refine l_goto rfl rfl ?_
            exact Rl_weak (ih105 _ (by omega) T7 hHT7 hFT7 (v4) (z36) ((v6 + 1)) (by omega) (by omega) (by omega) (by omega) (by first | exact cad_i cac67 ⟨by omega, by omega⟩ ⟨by omega, by omega⟩ ho (gb_f ho (by omega)) rfl | (have t := c148 (by omega); rw [zc_of (show FR zcM S _ from hFT7)] at t; exact cad_s ⟨by omega, by omega⟩ cad105 t l148)) (by first | exact cal_w cal67 (Or.inl rfl) ⟨by omega, by omega⟩ rfl | exact cal105.tr l148 (by omega)) (by first | (have t := Q148; exact fun h => (f1 (by omega)).trans (alT_s ⟨by omega, by omega⟩ (by show hoC _ _ _ o ≠ 0; rw [← Q148]; exact h))) | exact fun _ => rfl) (by first | (have t := Q148; exact fun h => (f1 (by omega)).trans (alT_0 ⟨by omega, by omega⟩ (by show hoC _ _ _ o = 0; rw [← Q148]; exact h))) | exact fun h => absurd h (by decide)) rfl) (And.intro rfl (And.intro rfl (And.intro rfl (And.intro rfl (And.intro rfl (And.intro rfl (And.intro rfl (True.intro))))))))
    refine l_iconst rfl ?_
    refine l_iload_n rfl rfl ?_
    refine l_ishlF rfl ?_
    have w38 : -2147483648 ≤ (ishlF 1 o) ∧ (ishlF 1 o) ≤ 2147483647 := ishlF_rg
    refine l_istore rfl rfl rfl ?_
    refine l_aload_n rfl rfl ?_
    refine l_gfr rfl rfl rfl rfl rfl (hHT1.r 900 7 996 rfl) ?_
    refine l_iload_n rfl rfl ?_
    refine l_aaload (n := 8) (a := 997 + (dp).toNat) rfl rfl (by decide) (by omega) (by omega) (by unfold rg; omega) (RW_996 hHT1 (by omega)) ?_
    refine l_iload_n rfl rfl ?_
    refine l_iaload (n := 24) rfl (lay_997 (by omega)) (by omega) (by omega) (by unfold rg; omega) ?_
    have w39 : -2147483648 ≤ (Xi T1 (997 + (dp).toNat) ((a).toNat)) ∧ (Xi T1 (997 + (dp).toNat) ((a).toNat)) ≤ 2147483647 := Xi_rgI
    refine l_iload rfl rfl ?_
    refine l_iandF rfl ?_
    have w40 : -2147483648 ≤ (iandF (Xi T1 (997 + (dp).toNat) ((a).toNat)) (ishlF 1 o)) ∧ (iandF (Xi T1 (997 + (dp).toNat) ((a).toNat)) (ishlF 1 o)) ≤ 2147483647 := iandF_rg
    refine l_if_ne rfl rfl (by unfold rg; omega) (fun w41 => ?_) (fun w42 => ?_)
    · exact Rl_weak (C181 T1 hHT1 hFT1 ((ishlF 1 o)) (by omega) (by omega) (by first | exact cac67 | exact cac_i cad159 ⟨by omega, by omega⟩ ⟨by omega, by omega⟩ ho (by first | exact Or.inl ⟨by omega, by omega⟩ | exact Or.inr ⟨rfl, by omega⟩) rfl) (by first | exact cal67 | exact cal_w cal159 (Or.inr rfl) ⟨by omega, by omega⟩ rfl) (by first | exact gb_t ho (by omega) | (have t : Xi T1 (997 + dp.toNat) a.toNat = Xi T1 (997 + dp.toNat) a.toNat := (by rw [rfl]; exact Xi_ne (by omega)); rw [t]; exact cad159.2.1))) (And.intro rfl (And.intro rfl (And.intro rfl (And.intro rfl (True.intro)))))
    · refine l_aload_n rfl rfl ?_
      refine l_gfr rfl rfl rfl rfl rfl (hHT1.r 900 7 996 rfl) ?_
      refine l_iload_n rfl rfl ?_
      refine l_aaload (n := 8) (a := 997 + (dp).toNat) rfl rfl (by decide) (by omega) (by omega) (by unfold rg; omega) (RW_996 hHT1 (by omega)) ?_
      refine l_iload_n rfl rfl ?_
      refine l_dup2 rfl rfl ?_
      refine l_iaload (n := 24) rfl (lay_997 (by omega)) (by omega) (by omega) (by unfold rg; omega) ?_
      refine l_iload rfl rfl ?_
      refine l_iorF rfl ?_
      have w43 : -2147483648 ≤ (iorF (Xi T1 (997 + (dp).toNat) ((a).toNat)) (ishlF 1 o)) ∧ (iorF (Xi T1 (997 + (dp).toNat) ((a).toNat)) (ishlF 1 o)) ≤ 2147483647 := iorF_rg
      have w43b : (0 : Int) ≤ (Xi T1 (997 + (dp).toNat) ((a).toNat)) → (0 : Int) ≤ (ishlF 1 o) → 0 ≤ (iorF (Xi T1 (997 + (dp).toNat) ((a).toNat)) (ishlF 1 o)) := iorF_nn (by unfold rg; omega) (by unfold rg; omega)
      refine l_iastore (n := 24) rfl (lay_997 (by omega)) (by omega) (by omega) (by unfold rg; omega) ?_
      obtain ⟨U8, eU8⟩ : ∃ T : sS, T = uI T1 (997 + (dp).toNat) ((a).toNat) (Int32.ofInt (iorF (Xi T1 (997 + (dp).toNat) ((a).toNat)) (ishlF 1 o))) := ⟨_, rfl⟩
      rw [← eU8]
      have hHU8 : HI U8 := by rw [eU8]; exact HI_any hHT1 (lh_row997 (by omega))
      have hFU8 : FR md_tu_adjectiveHolds__q S U8 := by rw [eU8]; exact FR.wI hFT1 (mdf_i (r := (997, 1005, 0, 100000)) (List.mem_of_getElem? (i := 0) rfl) (inR_i (by omega) (by omega) (by omega) (by omega)))
      have w44 : Xi U8 (997 + (dp).toNat) ((a).toNat) = (iorF (Xi T1 (997 + (dp).toNat) ((a).toNat)) (ishlF 1 o)) := by rw [eU8]; exact Xi_same (by unfold rg; omega)
      refine l_iconst rfl ?_
      refine l_istore rfl rfl rfl ?_
      refine l_iconst rfl ?_
      refine l_istore rfl rfl rfl ?_
      exact Rl_weak (C105 _ U8 hHU8 hFU8 ((ishlF 1 o)) (1) (0) (by omega) (by omega) (by omega) (by omega) (by first | exact cad_i cac67 ⟨by omega, by omega⟩ ⟨by omega, by omega⟩ ho (gb_f ho (by omega)) eU8 | (have t := c148 (by omega); rw [zc_of (show FR zcM S _ from hFU8)] at t; exact cad_s ⟨by omega, by omega⟩ cad105 t l148)) (by first | exact cal_w cal67 (Or.inl rfl) ⟨by omega, by omega⟩ eU8 | exact cal105.tr l148 (by omega)) (by first | (have t := Q148; exact fun h => (f1 (by omega)).trans (alT_s ⟨by omega, by omega⟩ (by show hoC _ _ _ o ≠ 0; rw [← Q148]; exact h))) | exact fun _ => rfl) (by first | (have t := Q148; exact fun h => (f1 (by omega)).trans (alT_0 ⟨by omega, by omega⟩ (by show hoC _ _ _ o = 0; rw [← Q148]; exact h))) | exact fun h => absurd h (by decide)) rfl) (And.intro rfl (And.intro rfl (And.intro rfl (And.intro rfl (And.intro rfl (And.intro rfl (And.intro rfl (True.intro))))))))
  refine l_aload_n rfl rfl ?_
  refine l_gfr rfl rfl rfl rfl rfl (hH.r 900 0 1 rfl) ?_
  refine l_gfr rfl rfl rfl rfl rfl (hH.r 1 10 11 rfl) ?_
  refine l_iload_n rfl rfl ?_
  refine l_iaload (n := 24) rfl rfl (by omega) (by omega) (by unfold rg; omega) ?_
  have w45 : -1 ≤ (Xi S 11 ((a).toNat)) ∧ (Xi S 11 ((a).toNat)) ≤ 23 := hH.c _ _
  refine l_iconst rfl ?_
  refine l_icmp_eq rfl rfl (by unfold rg; omega) (by unfold rg; omega) (fun w46 => ?_) (fun w47 => ?_)
  · refine l_iload_n rfl rfl ?_
    refine l_bipush rfl rfl ?_
    refine l_icmp_ge rfl rfl (by unfold rg; omega) (by unfold rg; omega) (fun w48 => ?_) (fun w49 => ?_)
    · refine l_iconst rfl ?_
      refine l_ireturn rfl rfl ?_
      exact ⟨hH, hF, _, rfl, ⟨by omega, by omega⟩, (by first | (have t := K19; rw [ahC_1 (by rw [zc_x (by decide)]; omega), zc_hasA hH ho]; exact q19) | (have t := K181; first | exact t.1 (by omega) | exact t.2 (by omega)) | (rw [show (8 - dp).toNat = 0 by omega]; exact (ahC_0 (by rw [zc_x (by decide)]; omega)).symm) | exact (ahC_2 (by rw [zc_x (by decide)]; omega) (by rw [zc_isK, zc_x (by decide), zc_x (by decide), ← q51]; omega)).symm), (by first | exact hc | exact fun _ => by rw [zc_of (show FR zcM S _ from hF)]; exact cac181), (by first | exact CAL.rf | exact cal181)⟩
    · refine l_aload_n rfl rfl ?_
      refine l_gfr rfl rfl rfl rfl rfl (hH.r 900 0 1 rfl) ?_
      refine l_aload_n rfl rfl ?_
      refine l_gfr rfl rfl rfl rfl rfl (hH.r 900 1 20 rfl) ?_
      refine l_gfr rfl rfl rfl rfl rfl (hH.r 20 2 21 rfl) ?_
      refine l_iload_n rfl rfl ?_
      refine l_iaload (n := 24) rfl rfl (by omega) (by omega) (by unfold rg; omega) ?_
      have w50 : 0 ≤ (Xi S 21 ((o).toNat)) ∧ (Xi S 21 ((o).toNat)) ≤ 15 := hH.c _ _
      refine l_aload_n rfl rfl ?_
      refine l_gfr rfl rfl rfl rfl rfl (hH.r 900 0 1 rfl) ?_
      refine l_gfr rfl rfl rfl rfl rfl (hH.r 1 9 10 rfl) ?_
      refine l_iload_n rfl rfl ?_
      refine l_iaload (n := 24) rfl rfl (by omega) (by omega) (by unfold rg; omega) ?_
      have w51 : 0 ≤ (Xi S 10 ((a).toNat)) ∧ (Xi S 10 ((a).toNat)) ≤ 15 := hH.c _ _
      refine l_callV rfl rfl rfl (t_vo_isKind hH (Xi S 21 ((o).toNat)) (Xi S 10 ((a).toNat)) ⟨by omega, by omega⟩ ⟨by omega, by omega⟩ _) ?_
      rintro _ _ ⟨rfl, z52, rfl, w52, q51⟩
      show Rl _ _ _ _ _ [iv z52] _ _
      refine l_if_ne rfl rfl (by unfold rg; omega) (fun w53 => ?_) (fun w54 => ?_)
      · refine l_iload_n rfl rfl ?_
        refine l_if_ne rfl rfl (by unfold rg; omega) (fun w55 => ?_) (fun w56 => ?_)
        · exact Rl_weak (C67 S hH hF  (by omega) (by omega) (by rw [← q51]; omega) (by first | exact hc (by omega) | exact cac_0 (by omega) z64) (by first | exact CAL.rf | exact fun r j h => absurd h (by omega))) (And.intro rfl (And.intro rfl (And.intro rfl (And.intro rfl (True.intro)))))
        · refine l_aload_n rfl rfl ?_
          refine l_callV rfl rfl rfl (t_tu_forget hH _) ?_
          rintro _ T9 ⟨hHT9, w58, rfl, z64⟩
          have hFT9 : FR md_tu_adjectiveHolds__q S T9 := FR.tr hF w58 rfl
          show Rl _ _ _ _ _ [] _ _
          exact Rl_weak (C67 T9 hHT9 hFT9  (by omega) (by omega) (by rw [← q51]; omega) (by first | exact hc (by omega) | exact cac_0 (by omega) z64) (by first | exact CAL.rf | exact fun r j h => absurd h (by omega))) (And.intro rfl (And.intro rfl (And.intro rfl (And.intro rfl (True.intro)))))
      · refine l_iconst rfl ?_
        refine l_ireturn rfl rfl ?_
        exact ⟨hH, hF, _, rfl, ⟨by omega, by omega⟩, (by first | (have t := K19; rw [ahC_1 (by rw [zc_x (by decide)]; omega), zc_hasA hH ho]; exact q19) | (have t := K181; first | exact t.1 (by omega) | exact t.2 (by omega)) | (rw [show (8 - dp).toNat = 0 by omega]; exact (ahC_0 (by rw [zc_x (by decide)]; omega)).symm) | exact (ahC_2 (by rw [zc_x (by decide)]; omega) (by rw [zc_isK, zc_x (by decide), zc_x (by decide), ← q51]; omega)).symm), (by first | exact hc | exact fun _ => by rw [zc_of (show FR zcM S _ from hF)]; exact cac181), (by first | exact CAL.rf | exact cal181)⟩
  · refine l_aload_n rfl rfl ?_
    refine l_gfr rfl rfl rfl rfl rfl (hH.r 900 1 20 rfl) ?_
    refine l_iload_n rfl rfl ?_
    refine l_iload_n rfl rfl ?_
    refine l_callV rfl rfl rfl (t_wo_hasAdjective hH o a ⟨by omega, by omega⟩ ⟨by omega, by omega⟩ _) ?_
    rintro _ _ ⟨rfl, z59, rfl, w59, q19⟩
    show Rl _ _ _ _ _ [iv z59] _ _
    have K19 : True := trivial
    refine l_ireturn rfl (retI_z (by omega)) ?_
    exact ⟨hH, hF, _, rfl, ⟨by omega, by omega⟩, (by first | (have t := K19; rw [ahC_1 (by rw [zc_x (by decide)]; omega), zc_hasA hH ho]; exact q19) | (have t := K181; first | exact t.1 (by omega) | exact t.2 (by omega)) | (rw [show (8 - dp).toNat = 0 by omega]; exact (ahC_0 (by rw [zc_x (by decide)]; omega)).symm) | exact (ahC_2 (by rw [zc_x (by decide)]; omega) (by rw [zc_isK, zc_x (by decide), zc_x (by decide), ← q51]; omega)).symm), (by first | exact hc | exact fun _ => by rw [zc_of (show FR zcM S _ from hF)]; exact cac181), (by first | exact CAL.rf | exact cal181)⟩
set_option maxRecDepth 100000 in
theorem u_tu_holds__q {S : sS} (hH : HI S) (cl : Nat) (self : Int) (depth : Int) (hcl : cl < 600) (hself : -1 ≤ self ∧ self ≤ 23) (hdepth : 0 ≤ depth ∧ depth ≤ 8) (hk : TSok S (0 ≤ self) cl) (hD : DEF S) (hX : TX S) (hc : CAP S depth) (d : Nat) (hrec : ∀ {S : sS} (_ : HI S) (o : Int) (a : Int) (dp : Int) (ho : 0 ≤ o ∧ o ≤ 23) (ha : 0 ≤ a ∧ a ≤ 23) (hdp : 0 ≤ dp ∧ dp ≤ 8) (ha2 : a < Xi S 5 3) (hD : DEF S) (hX : TX S) (hc : CAP S dp), (dp = depth) → Mt lay0 (d + 7) m_tu_adjectiveHolds [.ref 900, iv o, iv a, iv dp] S (Q_tu_adjectiveHolds__q S o a dp)) : Mt lay0 (d + 8) m_tu_holds [.ref 900, .ref (276 + cl), iv self, iv depth] S (Q_tu_holds__q S cl self depth) := by
  refine Mt_R rfl rfl ?_
  have hF : FR md_tu_holds__q S S := FR.rf
  have hf6 := hk.2
  have hc3 : 0 ≤ Xi S 5 3 ∧ Xi S 5 3 ≤ 24 := hH.c _ _
  have C275 : ∀  (T1 : sS) (_ : HI T1) (_ : FR md_tu_holds__q S T1) (v6 : Int), (0 ≤ v6 ∧ v6 ≤ 1) → (v6 = tvC (ahC (zcS S) (8 - depth).toNat) S cl self) → (CAP T1 depth) → (CAL S T1 depth) → Rl lay0 (d + 7) m_tu_holds 275 [(1, .ref (276 + cl)), (6, iv v6)] [] T1 (Q_tu_holds__q S cl self depth) := by
    intro T1 hHT1 hFT1 v6 w1 t275 c275 l275
    have w2 : Xi T1 5 3 = Xi S 5 3 := hFT1.x _ _ rfl
    refine l_iload rfl rfl ?_
    have h1 : Xi T1 (276 + cl) 1 = Xi S (276 + cl) 1 := FR_cl hFT1 rfl hcl
    refine l_aload_n rfl rfl ?_
    refine l_gfi rfl rfl rfl (layCl (by omega)) rfl ?_
    have w3 : 0 ≤ (Xi T1 (276 + cl) 1) ∧ (Xi T1 (276 + cl) 1) ≤ 1 := clc1 hHT1 (by omega)
    refine l_icmp_eq rfl rfl (by unfold rg; omega) (by unfold rg; omega) (fun w4 => ?_) (fun w5 => ?_)
    · refine l_iconst rfl ?_
      refine l_ireturn rfl rfl ?_
      exact ⟨hHT1, hFT1, _, rfl, ⟨by omega, by omega⟩, ((hoC_i t275 (by omega)).trans (zc_hoC hH hcl hk hself id).symm), (c275), (l275)⟩
    · refine l_iconst rfl ?_
      refine l_goto rfl rfl ?_
      refine l_ireturn rfl rfl ?_
      exact ⟨hHT1, hFT1, _, rfl, ⟨by omega, by omega⟩, ((hoC_i t275 (by omega)).trans (zc_hoC hH hcl hk hself id).symm), (c275), (l275)⟩
  refine l_aload_n rfl rfl ?_
  refine l_gfi rfl rfl rfl (layCl (by omega)) rfl ?_
  have w6 : -2 ≤ (Xi S (276 + cl) 2) ∧ (Xi S (276 + cl) 2) ≤ 23 := clc2 hH (by omega)
  refine l_iload_n rfl rfl ?_
  refine l_callS rfl rfl (by decide) rfl (t_tu_whoIs hH (Xi S (276 + cl) 2) self ⟨by omega, by omega⟩ ⟨by omega, by omega⟩ _) ?_
  rintro _ _ ⟨rfl, z7, rfl, w7, p5⟩
  show Rl _ _ _ _ _ [iv z7] _ _
  have W5 : whU self (Xi S (276 + cl) 2) = z7 := whU_i p5
  refine l_istore rfl rfl rfl ?_
  refine l_aload_n rfl rfl ?_
  refine l_gfi rfl rfl rfl (layCl (by omega)) rfl ?_
  have w8 : -2 ≤ (Xi S (276 + cl) 6) ∧ (Xi S (276 + cl) 6) ≤ 23 := clc6 hH (by omega)
  refine l_iload_n rfl rfl ?_
  refine l_callS rfl rfl (by decide) rfl (t_tu_whoIs hH (Xi S (276 + cl) 6) self ⟨by omega, by omega⟩ ⟨by omega, by omega⟩ _) ?_
  rintro _ _ ⟨rfl, z9, rfl, w9, p15⟩
  show Rl _ _ _ _ _ [iv z9] _ _
  have W15 : whU self (Xi S (276 + cl) 6) = z9 := whU_i p15
  refine l_istore rfl rfl rfl ?_
  refine l_aload_n rfl rfl ?_
  refine l_gfi rfl rfl rfl (layCl (by omega)) rfl ?_
  have w10 : 0 ≤ (Xi S (276 + cl) 0) ∧ (Xi S (276 + cl) 0) ≤ 11 := clc0 hH (by omega)
  refine l_tsw rfl rfl rfl rfl (by unfold rg; omega) (fun w11 => ?_) (fun ii tt hii w11 => ?_)
  · refine l_aload_n rfl rfl ?_
    have hk6 : (0 ≤ Xi S (276 + cl) 2 ∨ (Xi S (276 + cl) 2 = -2 ∧ 0 ≤ self)) ∧ (0 ≤ Xi S (276 + cl) 6 ∨ (Xi S (276 + cl) 6 = -2 ∧ 0 ≤ self)) ∧ 0 ≤ Xi S (276 + cl) 3 ∧ Xi S (276 + cl) 3 ≤ 5 := hk.1.2.2.2.2.1 (by omega)
    refine l_gfr rfl rfl rfl rfl rfl (hH.r 900 1 20 rfl) ?_
    refine l_aload_n rfl rfl ?_
    refine l_gfi rfl rfl rfl (layCl (by omega)) rfl ?_
    have w12 : -1 ≤ (Xi S (276 + cl) 3) ∧ (Xi S (276 + cl) 3) ≤ 1666 := clc3 hH (by omega)
    refine l_iload rfl rfl ?_
    refine l_iload rfl rfl ?_
    refine l_callV rfl rfl rfl (t_wo_isRelated hH (Xi S (276 + cl) 3) z7 z9 ⟨by omega, by omega⟩ ⟨by omega, by omega⟩ ⟨by omega, by omega⟩ _) ?_
    rintro _ _ ⟨rfl, z13, rfl, w13, q270⟩
    show Rl _ _ _ _ _ [iv z13] _ _
    refine l_istore rfl rfl rfl ?_
    exact Rl_weak (C275 S hH hF (z13) (by omega) (by first | exact tv_0 (by omega) W5 q72 | exact tv_1 (by omega) W5 q90 (by omega) | exact tv_2 (by omega) W5 q120 (by omega) | exact tv_3 (by omega) W5 q150 (by omega) | exact tv_4 (by omega) W5 q184 q197 q208 | exact tv_6 (by omega) W5 W15 q270 | exact tv_5 (by omega) W5 W15 (by omega)) (by first | exact c72 | exact hc) (by first | exact l72 | exact CAL.rf)) (And.intro rfl (And.intro rfl (True.intro)))
  · match ii, hii with
    | 0, hii =>
      cases hii
      have w14 : (Xi S (276 + cl) 0) = 0 := by simpa using w11
      refine l_aload_n rfl rfl ?_
      have hk0 : (0 ≤ Xi S (276 + cl) 2 ∨ (Xi S (276 + cl) 2 = -2 ∧ 0 ≤ self)) ∧ 0 ≤ Xi S (276 + cl) 3 ∧ Xi S (276 + cl) 3 < Xi S 5 3 := hk.1.1 (by omega)
      refine l_iload rfl rfl ?_
      refine l_aload_n rfl rfl ?_
      refine l_gfi rfl rfl rfl (layCl (by omega)) rfl ?_
      have w15 : -1 ≤ (Xi S (276 + cl) 3) ∧ (Xi S (276 + cl) 3) ≤ 1666 := clc3 hH (by omega)
      refine l_iload_n rfl rfl ?_
      have w16 : 0 ≤ Xi S 5 3 ∧ Xi S 5 3 ≤ 24 := hH.c _ _
      refine l_callV rfl rfl rfl (hrec hH z7 (Xi S (276 + cl) 3) depth ⟨by omega, by omega⟩ ⟨by omega, by omega⟩ ⟨by omega, by omega⟩ (by first | assumption | omega) (by first | assumption | exact (DEF_FR hH hF rfl rfl (by assumption : DEF S))) (by first | assumption | exact (TX_FR hF rfl (by assumption : TX S))) (by first | assumption | omega) (by omega)) ?_
      rintro _ T2 ⟨hHT2, w18, z17, rfl, w17, q72, c72, l72⟩
      have hFT2 : FR md_tu_holds__q S T2 := FR.tr hF w18 rfl
      show Rl _ _ _ _ _ [iv z17] _ _
      refine l_istore rfl rfl rfl ?_
      refine l_goto rfl rfl ?_
      exact Rl_weak (C275 T2 hHT2 hFT2 (z17) (by omega) (by first | exact tv_0 (by omega) W5 q72 | exact tv_1 (by omega) W5 q90 (by omega) | exact tv_2 (by omega) W5 q120 (by omega) | exact tv_3 (by omega) W5 q150 (by omega) | exact tv_4 (by omega) W5 q184 q197 q208 | exact tv_6 (by omega) W5 W15 q270 | exact tv_5 (by omega) W5 W15 (by omega)) (by first | exact c72 | exact hc) (by first | exact l72 | exact CAL.rf)) (And.intro rfl (And.intro rfl (True.intro)))
    | 1, hii =>
      cases hii
      have w19 : (Xi S (276 + cl) 0) = 1 := by simpa using w11
      refine l_aload_n rfl rfl ?_
      have hk1 : (0 ≤ Xi S (276 + cl) 2 ∨ (Xi S (276 + cl) 2 = -2 ∧ 0 ≤ self)) ∧ 0 ≤ Xi S (276 + cl) 3 ∧ Xi S (276 + cl) 3 ≤ 11 := (hk.1.2.1 (by omega)).1
      refine l_gfr rfl rfl rfl rfl rfl (hH.r 900 1 20 rfl) ?_
      refine l_iload rfl rfl ?_
      refine l_aload_n rfl rfl ?_
      refine l_gfi rfl rfl rfl (layCl (by omega)) rfl ?_
      have w20 : -1 ≤ (Xi S (276 + cl) 3) ∧ (Xi S (276 + cl) 3) ≤ 1666 := clc3 hH (by omega)
      refine l_callV rfl rfl rfl (t_wo_valueOf hH z7 (Xi S (276 + cl) 3) ⟨by omega, by omega⟩ ⟨by omega, by omega⟩ _) ?_
      rintro _ _ ⟨rfl, z21, rfl, w21, q90⟩
      show Rl _ _ _ _ _ [iv z21] _ _
      refine l_aload_n rfl rfl ?_
      refine l_gfi rfl rfl rfl (layCl (by omega)) rfl ?_
      have w22 : -2147483648 ≤ (Xi S (276 + cl) 4) ∧ (Xi S (276 + cl) 4) ≤ 2147483647 := Xi_rgI
      refine l_icmp_ne rfl rfl (by unfold rg; omega) (by unfold rg; omega) (fun w23 => ?_) (fun w24 => ?_)
      · refine l_iconst rfl ?_
        refine l_istore rfl rfl rfl ?_
        refine l_goto rfl rfl ?_
        exact Rl_weak (C275 S hH hF (0) (by omega) (by first | exact tv_0 (by omega) W5 q72 | exact tv_1 (by omega) W5 q90 (by omega) | exact tv_2 (by omega) W5 q120 (by omega) | exact tv_3 (by omega) W5 q150 (by omega) | exact tv_4 (by omega) W5 q184 q197 q208 | exact tv_6 (by omega) W5 W15 q270 | exact tv_5 (by omega) W5 W15 (by omega)) (by first | exact c72 | exact hc) (by first | exact l72 | exact CAL.rf)) (And.intro rfl (And.intro rfl (True.intro)))
      · refine l_iconst rfl ?_
        refine l_goto rfl rfl ?_
        refine l_istore rfl rfl rfl ?_
        refine l_goto rfl rfl ?_
        exact Rl_weak (C275 S hH hF (1) (by omega) (by first | exact tv_0 (by omega) W5 q72 | exact tv_1 (by omega) W5 q90 (by omega) | exact tv_2 (by omega) W5 q120 (by omega) | exact tv_3 (by omega) W5 q150 (by omega) | exact tv_4 (by omega) W5 q184 q197 q208 | exact tv_6 (by omega) W5 W15 q270 | exact tv_5 (by omega) W5 W15 (by omega)) (by first | exact c72 | exact hc) (by first | exact l72 | exact CAL.rf)) (And.intro rfl (And.intro rfl (True.intro)))
    | 2, hii =>
      cases hii
      have w25 : (Xi S (276 + cl) 0) = 2 := by simpa using w11
      refine l_aload_n rfl rfl ?_
      have hk1 : (0 ≤ Xi S (276 + cl) 2 ∨ (Xi S (276 + cl) 2 = -2 ∧ 0 ≤ self)) ∧ 0 ≤ Xi S (276 + cl) 3 ∧ Xi S (276 + cl) 3 ≤ 11 := hk.1.2.2.1 (by omega)
      refine l_gfr rfl rfl rfl rfl rfl (hH.r 900 1 20 rfl) ?_
      refine l_iload rfl rfl ?_
      refine l_aload_n rfl rfl ?_
      refine l_gfi rfl rfl rfl (layCl (by omega)) rfl ?_
      have w26 : -1 ≤ (Xi S (276 + cl) 3) ∧ (Xi S (276 + cl) 3) ≤ 1666 := clc3 hH (by omega)
      refine l_callV rfl rfl rfl (t_wo_valueOf hH z7 (Xi S (276 + cl) 3) ⟨by omega, by omega⟩ ⟨by omega, by omega⟩ _) ?_
      rintro _ _ ⟨rfl, z27, rfl, w27, q120⟩
      show Rl _ _ _ _ _ [iv z27] _ _
      refine l_aload_n rfl rfl ?_
      refine l_gfi rfl rfl rfl (layCl (by omega)) rfl ?_
      have w28 : -2147483648 ≤ (Xi S (276 + cl) 4) ∧ (Xi S (276 + cl) 4) ≤ 2147483647 := Xi_rgI
      refine l_icmp_ge rfl rfl (by unfold rg; omega) (by unfold rg; omega) (fun w29 => ?_) (fun w30 => ?_)
      · refine l_iconst rfl ?_
        refine l_istore rfl rfl rfl ?_
        refine l_goto rfl rfl ?_
        exact Rl_weak (C275 S hH hF (0) (by omega) (by first | exact tv_0 (by omega) W5 q72 | exact tv_1 (by omega) W5 q90 (by omega) | exact tv_2 (by omega) W5 q120 (by omega) | exact tv_3 (by omega) W5 q150 (by omega) | exact tv_4 (by omega) W5 q184 q197 q208 | exact tv_6 (by omega) W5 W15 q270 | exact tv_5 (by omega) W5 W15 (by omega)) (by first | exact c72 | exact hc) (by first | exact l72 | exact CAL.rf)) (And.intro rfl (And.intro rfl (True.intro)))
      · refine l_iconst rfl ?_
        refine l_goto rfl rfl ?_
        refine l_istore rfl rfl rfl ?_
        refine l_goto rfl rfl ?_
        exact Rl_weak (C275 S hH hF (1) (by omega) (by first | exact tv_0 (by omega) W5 q72 | exact tv_1 (by omega) W5 q90 (by omega) | exact tv_2 (by omega) W5 q120 (by omega) | exact tv_3 (by omega) W5 q150 (by omega) | exact tv_4 (by omega) W5 q184 q197 q208 | exact tv_6 (by omega) W5 W15 q270 | exact tv_5 (by omega) W5 W15 (by omega)) (by first | exact c72 | exact hc) (by first | exact l72 | exact CAL.rf)) (And.intro rfl (And.intro rfl (True.intro)))
    | 3, hii =>
      cases hii
      have w31 : (Xi S (276 + cl) 0) = 3 := by simpa using w11
      refine l_aload_n rfl rfl ?_
      have hk1 : (0 ≤ Xi S (276 + cl) 2 ∨ (Xi S (276 + cl) 2 = -2 ∧ 0 ≤ self)) ∧ 0 ≤ Xi S (276 + cl) 3 ∧ Xi S (276 + cl) 3 ≤ 11 := hk.1.2.2.1 (by omega)
      refine l_gfr rfl rfl rfl rfl rfl (hH.r 900 1 20 rfl) ?_
      refine l_iload rfl rfl ?_
      refine l_aload_n rfl rfl ?_
      refine l_gfi rfl rfl rfl (layCl (by omega)) rfl ?_
      have w32 : -1 ≤ (Xi S (276 + cl) 3) ∧ (Xi S (276 + cl) 3) ≤ 1666 := clc3 hH (by omega)
      refine l_callV rfl rfl rfl (t_wo_valueOf hH z7 (Xi S (276 + cl) 3) ⟨by omega, by omega⟩ ⟨by omega, by omega⟩ _) ?_
      rintro _ _ ⟨rfl, z33, rfl, w33, q150⟩
      show Rl _ _ _ _ _ [iv z33] _ _
      refine l_aload_n rfl rfl ?_
      refine l_gfi rfl rfl rfl (layCl (by omega)) rfl ?_
      have w34 : -2147483648 ≤ (Xi S (276 + cl) 4) ∧ (Xi S (276 + cl) 4) ≤ 2147483647 := Xi_rgI
      refine l_icmp_le rfl rfl (by unfold rg; omega) (by unfold rg; omega) (fun w35 => ?_) (fun w36 => ?_)
      · refine l_iconst rfl ?_
        refine l_istore rfl rfl rfl ?_
        refine l_goto rfl rfl ?_
        exact Rl_weak (C275 S hH hF (0) (by omega) (by first | exact tv_0 (by omega) W5 q72 | exact tv_1 (by omega) W5 q90 (by omega) | exact tv_2 (by omega) W5 q120 (by omega) | exact tv_3 (by omega) W5 q150 (by omega) | exact tv_4 (by omega) W5 q184 q197 q208 | exact tv_6 (by omega) W5 W15 q270 | exact tv_5 (by omega) W5 W15 (by omega)) (by first | exact c72 | exact hc) (by first | exact l72 | exact CAL.rf)) (And.intro rfl (And.intro rfl (True.intro)))
      · refine l_iconst rfl ?_
        refine l_goto rfl rfl ?_
        refine l_istore rfl rfl rfl ?_
        refine l_goto rfl rfl ?_
        exact Rl_weak (C275 S hH hF (1) (by omega) (by first | exact tv_0 (by omega) W5 q72 | exact tv_1 (by omega) W5 q90 (by omega) | exact tv_2 (by omega) W5 q120 (by omega) | exact tv_3 (by omega) W5 q150 (by omega) | exact tv_4 (by omega) W5 q184 q197 q208 | exact tv_6 (by omega) W5 W15 q270 | exact tv_5 (by omega) W5 W15 (by omega)) (by first | exact c72 | exact hc) (by first | exact l72 | exact CAL.rf)) (And.intro rfl (And.intro rfl (True.intro)))
    | 4, hii =>
      cases hii
      have w37 : (Xi S (276 + cl) 0) = 4 := by simpa using w11
      refine l_aload_n rfl rfl ?_
      have hk1 : (0 ≤ Xi S (276 + cl) 2 ∨ (Xi S (276 + cl) 2 = -2 ∧ 0 ≤ self)) ∧ 0 ≤ Xi S (276 + cl) 3 ∧ Xi S (276 + cl) 3 ≤ 11 := (hk.1.2.1 (by omega)).1
      refine l_gfr rfl rfl rfl rfl rfl (hH.r 900 1 20 rfl) ?_
      refine l_aload_n rfl rfl ?_
      refine l_gfr rfl rfl rfl rfl rfl (hH.r 900 1 20 rfl) ?_
      refine l_iload rfl rfl ?_
      refine l_aload_n rfl rfl ?_
      refine l_gfi rfl rfl rfl (layCl (by omega)) rfl ?_
      have w38 : -1 ≤ (Xi S (276 + cl) 3) ∧ (Xi S (276 + cl) 3) ≤ 1666 := clc3 hH (by omega)
      refine l_callV rfl rfl rfl (t_wo_valueOf hH z7 (Xi S (276 + cl) 3) ⟨by omega, by omega⟩ ⟨by omega, by omega⟩ _) ?_
      rintro _ _ ⟨rfl, z39, rfl, w39, q184⟩
      show Rl _ _ _ _ _ [iv z39, .ref 20] _ _
      refine l_aload_n rfl rfl ?_
      refine l_gfr rfl rfl rfl rfl rfl (hH.r 900 1 20 rfl) ?_
      refine l_iload rfl rfl ?_
      refine l_aload_n rfl rfl ?_
      refine l_gfi rfl rfl rfl (layCl (by omega)) rfl ?_
      refine l_callV rfl rfl rfl (t_wo_lengthOf hH z7 (Xi S (276 + cl) 3) ⟨by omega, by omega⟩ ⟨by omega, by omega⟩ _) ?_
      rintro _ _ ⟨rfl, z40, rfl, w40, q197⟩
      show Rl _ _ _ _ _ [iv z40, iv z39, .ref 20] _ _
      refine l_aload_n rfl rfl ?_
      refine l_gfi rfl rfl rfl (layCl (by omega)) rfl ?_
      have w41 : -2147483648 ≤ (Xi S (276 + cl) 4) ∧ (Xi S (276 + cl) 4) ≤ 2147483647 := Xi_rgI
      refine l_aload_n rfl rfl ?_
      refine l_gfi rfl rfl rfl (layCl (by omega)) rfl ?_
      have w42 : -2147483648 ≤ (Xi S (276 + cl) 5) ∧ (Xi S (276 + cl) 5) ≤ 2147483647 := Xi_rgI
      refine l_callV rfl rfl rfl (t_wo_sameText hH z39 z40 (Xi S (276 + cl) 4) (Xi S (276 + cl) 5) ⟨by omega, by omega⟩ ⟨by omega, by omega⟩ ⟨by omega, by omega⟩ ⟨by omega, by omega⟩ (TX_v hX hH (by assumption) (by assumption) (by omega) (by omega) (by omega)) ((hk.1.2.1 (by omega)).2) _) ?_
      rintro _ _ ⟨rfl, z43, rfl, w43, q208⟩
      show Rl _ _ _ _ _ [iv z43] _ _
      refine l_istore rfl rfl rfl ?_
      refine l_goto rfl rfl ?_
      exact Rl_weak (C275 S hH hF (z43) (by omega) (by first | exact tv_0 (by omega) W5 q72 | exact tv_1 (by omega) W5 q90 (by omega) | exact tv_2 (by omega) W5 q120 (by omega) | exact tv_3 (by omega) W5 q150 (by omega) | exact tv_4 (by omega) W5 q184 q197 q208 | exact tv_6 (by omega) W5 W15 q270 | exact tv_5 (by omega) W5 W15 (by omega)) (by first | exact c72 | exact hc) (by first | exact l72 | exact CAL.rf)) (And.intro rfl (And.intro rfl (True.intro)))
    | 5, hii =>
      cases hii
      have w44 : (Xi S (276 + cl) 0) = 5 := by simpa using w11
      refine l_aload_n rfl rfl ?_
      have hk5 : (0 ≤ Xi S (276 + cl) 2 ∨ (Xi S (276 + cl) 2 = -2 ∧ 0 ≤ self)) := hk.1.2.2.2.1 (by omega)
      refine l_gfr rfl rfl rfl rfl rfl (hH.r 900 1 20 rfl) ?_
      refine l_gfr rfl rfl rfl rfl rfl (hH.r 20 3 22 rfl) ?_
      refine l_iload rfl rfl ?_
      refine l_iaload (n := 24) rfl rfl (by omega) (by omega) (by unfold rg; omega) ?_
      have w45 : 0 ≤ (Xi S 22 ((z7).toNat)) ∧ (Xi S 22 ((z7).toNat)) ≤ 5 := hH.c _ _
      refine l_aload_n rfl rfl ?_
      refine l_gfi rfl rfl rfl (layCl (by omega)) rfl ?_
      have w46 : -2147483648 ≤ (Xi S (276 + cl) 4) ∧ (Xi S (276 + cl) 4) ≤ 2147483647 := Xi_rgI
      refine l_icmp_ne rfl rfl (by unfold rg; omega) (by unfold rg; omega) (fun w47 => ?_) (fun w48 => ?_)
      · refine l_iconst rfl ?_
        refine l_istore rfl rfl rfl ?_
        refine l_goto rfl rfl ?_
        exact Rl_weak (C275 S hH hF (0) (by omega) (by first | exact tv_0 (by omega) W5 q72 | exact tv_1 (by omega) W5 q90 (by omega) | exact tv_2 (by omega) W5 q120 (by omega) | exact tv_3 (by omega) W5 q150 (by omega) | exact tv_4 (by omega) W5 q184 q197 q208 | exact tv_6 (by omega) W5 W15 q270 | exact tv_5 (by omega) W5 W15 (by omega)) (by first | exact c72 | exact hc) (by first | exact l72 | exact CAL.rf)) (And.intro rfl (And.intro rfl (True.intro)))
      · refine l_aload_n rfl rfl ?_
        refine l_gfr rfl rfl rfl rfl rfl (hH.r 900 1 20 rfl) ?_
        refine l_gfr rfl rfl rfl rfl rfl (hH.r 20 4 23 rfl) ?_
        refine l_iload rfl rfl ?_
        refine l_iaload (n := 24) rfl rfl (by omega) (by omega) (by unfold rg; omega) ?_
        have w49 : -1 ≤ (Xi S 23 ((z7).toNat)) ∧ (Xi S 23 ((z7).toNat)) ≤ 23 := hH.c _ _
        refine l_iload rfl rfl ?_
        refine l_icmp_ne rfl rfl (by unfold rg; omega) (by unfold rg; omega) (fun w50 => ?_) (fun w51 => ?_)
        · refine l_iconst rfl ?_
          refine l_istore rfl rfl rfl ?_
          refine l_goto rfl rfl ?_
          exact Rl_weak (C275 S hH hF (0) (by omega) (by first | exact tv_0 (by omega) W5 q72 | exact tv_1 (by omega) W5 q90 (by omega) | exact tv_2 (by omega) W5 q120 (by omega) | exact tv_3 (by omega) W5 q150 (by omega) | exact tv_4 (by omega) W5 q184 q197 q208 | exact tv_6 (by omega) W5 W15 q270 | exact tv_5 (by omega) W5 W15 (by omega)) (by first | exact c72 | exact hc) (by first | exact l72 | exact CAL.rf)) (And.intro rfl (And.intro rfl (True.intro)))
        · refine l_iconst rfl ?_
          refine l_goto rfl rfl ?_
          refine l_istore rfl rfl rfl ?_
          refine l_goto rfl rfl ?_
          exact Rl_weak (C275 S hH hF (1) (by omega) (by first | exact tv_0 (by omega) W5 q72 | exact tv_1 (by omega) W5 q90 (by omega) | exact tv_2 (by omega) W5 q120 (by omega) | exact tv_3 (by omega) W5 q150 (by omega) | exact tv_4 (by omega) W5 q184 q197 q208 | exact tv_6 (by omega) W5 W15 q270 | exact tv_5 (by omega) W5 W15 (by omega)) (by first | exact c72 | exact hc) (by first | exact l72 | exact CAL.rf)) (And.intro rfl (And.intro rfl (True.intro)))
    | n + 6, hii => exact absurd hii (by simp)
theorem k_adjq (n : Nat) : ∀ (d : Nat) {S : sS} (_ : HI S) (o : Int) (a : Int) (dp : Int) (ho : 0 ≤ o ∧ o ≤ 23) (ha : 0 ≤ a ∧ a ≤ 23) (hdp : 0 ≤ dp ∧ dp ≤ 8) (ha2 : a < Xi S 5 3) (hD : DEF S) (hX : TX S) (hc : CAP S dp), (8 - dp).toNat = n → Mt lay0 (d + 2 * n + 9) m_tu_adjectiveHolds [.ref 900, iv o, iv a, iv dp] S (Q_tu_adjectiveHolds__q S o a dp) := by
  induction n with
  | zero => intro d S hH o a dp ho ha hdp ha2 hD hX hc hm; exact u_tu_adjectiveHolds__q hH o a dp ho ha hdp ha2 hD hX hc d (fun {_} _ _ _ _ _ _ _ _ _ _ _ hlt => absurd hlt.1 (by omega))
  | succ n ih =>
    intro d S hH o a dp ho ha hdp ha2 hD hX hc hm
    have t := u_tu_adjectiveHolds__q hH o a dp ho ha hdp ha2 hD hX hc (d + 2 * n + 2) (fun {S} hH xcl xself xdepth xhcl xhself xhdepth xhk xhD xhX xhc hlt => u_tu_holds__q hH xcl xself xdepth xhcl xhself xhdepth xhk xhD xhX xhc (d + 2 * n + 2) (fun {S} hH2 yo ya ydp yho yha yhdp yha2 yhD yhX yhc he => by
      have t := ih d hH2 yo ya ydp yho yha yhdp yha2 yhD yhX yhc (by omega)
      rw [show d + 2 * n + 9 = d + 2 * n + 2 + 7 by omega] at t
      exact t))
    rw [show d + 2 * n + 2 + 9 = d + 2 * (n + 1) + 9 by omega] at t
    exact t
theorem t_tu_adjectiveHolds__q {S : sS} (hH : HI S) (o : Int) (a : Int) (dp : Int) (ho : 0 ≤ o ∧ o ≤ 23) (ha : 0 ≤ a ∧ a ≤ 23) (hdp : 0 ≤ dp ∧ dp ≤ 8) (ha2 : a < Xi S 5 3) (hD : DEF S) (hX : TX S) (hc : CAP S dp) (d : Nat) : Mt lay0 (d + 25) m_tu_adjectiveHolds [.ref 900, iv o, iv a, iv dp] S (Q_tu_adjectiveHolds__q S o a dp) := by
  have t := k_adjq (8 - dp).toNat (d + (16 - 2 * (8 - dp).toNat)) hH o a dp ho ha hdp ha2 hD hX hc rfl
  rw [show d + (16 - 2 * (8 - dp).toNat) + 2 * (8 - dp).toNat + 9 = d + 25 by omega] at t
  exact t
theorem t_tu_holds__q {S : sS} (hH : HI S) (cl : Nat) (self : Int) (depth : Int) (hcl : cl < 600) (hself : -1 ≤ self ∧ self ≤ 23) (hdepth : 0 ≤ depth ∧ depth ≤ 8) (hk : TSok S (0 ≤ self) cl) (hD : DEF S) (hX : TX S) (hc : CAP S depth) (d : Nat) : Mt lay0 (d + 26) m_tu_holds [.ref 900, .ref (276 + cl), iv self, iv depth] S (Q_tu_holds__q S cl self depth) :=
  u_tu_holds__q hH cl self depth hcl hself hdepth hk hD hX hc (d + 18) (fun {S} hH2 yo ya ydp yho yha yhdp yha2 yhD yhX yhc he => t_tu_adjectiveHolds__q hH2 yo ya ydp yho yha yhdp yha2 yhD yhX yhc d)

def md_rs_is__q : List rec := [(997, 1005, 0, 100000), (1006, 1014, 0, 100000)]
abbrev Q_rs_is__q (S : sS) (o : Int) (a : Int) : pst := fun r S1 => HI S1 ∧ FR md_rs_is__q S S1 ∧ (∃ z : Int, r = some (iv z) ∧ (-1 ≤ z ∧ z ≤ 1) ∧ (((o < 0 ∨ Xi S 5 2 ≤ o ∨ a < 0 ∨ Xi S 5 3 ≤ a) → z = -1) ∧ (0 ≤ o → o < Xi S 5 2 → 0 ≤ a → a < Xi S 5 3 → (isK S (Xi S 21 o.toNat) (Xi S 10 a.toNat) = 0 → z = -1) ∧ (isK S (Xi S 21 o.toNat) (Xi S 10 a.toNat) ≠ 0 → (ahC (zcS S) 8 o a = 0 → z = 0) ∧ (ahC (zcS S) 8 o a ≠ 0 → z = 1)))))
set_option maxRecDepth 100000 in
theorem t_rs_is__q {S : sS} (hH : HI S) (o : Int) (a : Int) (ho : -2147483648 ≤ o ∧ o ≤ 2147483647) (ha : -2147483648 ≤ a ∧ a ≤ 2147483647) (hD : DEF S) (hX : TX S) (d : Nat) : Mt lay0 (d + 26) m_rs_is [.ref 0, iv o, iv a] S (Q_rs_is__q S o a) := by
  refine Mt_R rfl rfl ?_
  have hF : FR md_rs_is__q S S := FR.rf
  have w1 : 0 ≤ Xi S 5 2 ∧ Xi S 5 2 ≤ 24 := hH.c _ _
  have w2 : 0 ≤ Xi S 5 3 ∧ Xi S 5 3 ≤ 24 := hH.c _ _
  refine l_aload_n rfl rfl ?_
  refine l_iload_n rfl rfl ?_
  have w3 : 0 ≤ Xi S 5 2 ∧ Xi S 5 2 ≤ 24 := hH.c _ _
  refine l_callV rfl rfl rfl (t_rs_isObject__q hH o ⟨by omega, by omega⟩ _) ?_
  rintro _ _ ⟨rfl, z6, rfl, w6, w4, w5⟩
  show Rl _ _ _ _ _ [iv z6] _ _
  refine l_if_eq rfl rfl (by unfold rg; omega) (fun w7 => ?_) (fun w8 => ?_)
  · refine l_iconst rfl ?_
    refine l_ireturn rfl rfl ?_
    exact ⟨hH, hF, _, rfl, ⟨by omega, by omega⟩, (by first | omega | (have t := K53; rw [show (8 - (0 : Int)).toNat = 8 by rfl] at q53; omega))⟩
  · refine l_iload_n rfl rfl ?_
    refine l_if_lt rfl rfl (by unfold rg; omega) (fun w9 => ?_) (fun w10 => ?_)
    · refine l_iconst rfl ?_
      refine l_ireturn rfl rfl ?_
      exact ⟨hH, hF, _, rfl, ⟨by omega, by omega⟩, (by first | omega | (have t := K53; rw [show (8 - (0 : Int)).toNat = 8 by rfl] at q53; omega))⟩
    · refine l_iload_n rfl rfl ?_
      refine l_aload_n rfl rfl ?_
      refine l_gfr rfl rfl rfl rfl rfl (hH.r 0 0 1 rfl) ?_
      refine l_iconst rfl ?_
      refine l_callV rfl rfl rfl (t_vo_countOf hH 3 ⟨by omega, by omega⟩ _) ?_
      rintro _ _ ⟨rfl, z14, rfl, w14, w11, w12, w13⟩
      have w15 : z14 = Xi S 5 3 ∧ 0 ≤ Xi S 5 3 ∧ Xi S 5 3 ≤ 24 := ⟨(w11 (by omega) (by omega)).1, hH.c 5 3⟩
      clear w11 w12 w13
      show Rl _ _ _ _ _ [iv z14, iv a] _ _
      refine l_icmp_ge rfl rfl (by unfold rg; omega) (by unfold rg; omega) (fun w16 => ?_) (fun w17 => ?_)
      · refine l_iconst rfl ?_
        refine l_ireturn rfl rfl ?_
        exact ⟨hH, hF, _, rfl, ⟨by omega, by omega⟩, (by first | omega | (have t := K53; rw [show (8 - (0 : Int)).toNat = 8 by rfl] at q53; omega))⟩
      · refine l_aload_n rfl rfl ?_
        refine l_gfr rfl rfl rfl rfl rfl (hH.r 0 1 20 rfl) ?_
        refine l_iload_n rfl rfl ?_
        refine l_aload_n rfl rfl ?_
        refine l_gfr rfl rfl rfl rfl rfl (hH.r 0 0 1 rfl) ?_
        refine l_gfr rfl rfl rfl rfl rfl (hH.r 1 9 10 rfl) ?_
        refine l_iload_n rfl rfl ?_
        refine l_iaload (n := 24) rfl rfl (by omega) (by omega) (by unfold rg; omega) ?_
        have w18 : 0 ≤ (Xi S 10 ((a).toNat)) ∧ (Xi S 10 ((a).toNat)) ≤ 15 := hH.c _ _
        refine l_callV rfl rfl rfl (t_wo_isA hH o (Xi S 10 ((a).toNat)) ⟨by omega, by omega⟩ ⟨by omega, by omega⟩ _) ?_
        rintro _ _ ⟨rfl, z20, rfl, w20, w19⟩
        show Rl _ _ _ _ _ [iv z20] _ _
        refine l_if_ne rfl rfl (by unfold rg; omega) (fun w21 => ?_) (fun w22 => ?_)
        · refine l_aload_n rfl rfl ?_
          refine l_gfr rfl rfl rfl rfl rfl (hH.r 0 7 900 rfl) ?_
          refine l_iload_n rfl rfl ?_
          refine l_iload_n rfl rfl ?_
          refine l_iconst rfl ?_
          have w23 : 0 ≤ Xi S 5 3 ∧ Xi S 5 3 ≤ 24 := hH.c _ _
          refine l_callV rfl rfl rfl (t_tu_adjectiveHolds__q hH o a 0 ⟨by omega, by omega⟩ ⟨by omega, by omega⟩ ⟨by omega, by omega⟩ (by first | assumption | omega) (by first | assumption | exact (DEF_FR hH hF rfl rfl (by assumption : DEF S))) (by first | assumption | exact (TX_FR hF rfl (by assumption : TX S))) (cap_0) _) ?_
          rintro _ T1 ⟨hHT1, w27, z26, rfl, w26, q53, w24, w25⟩
          have hFT1 : FR md_rs_is__q S T1 := FR.tr hF w27 rfl
          show Rl _ _ _ _ _ [iv z26] _ _
          have K53 : True := trivial
          refine l_if_eq rfl rfl (by unfold rg; omega) (fun w28 => ?_) (fun w29 => ?_)
          · refine l_iconst rfl ?_
            refine l_ireturn rfl rfl ?_
            exact ⟨hHT1, hFT1, _, rfl, ⟨by omega, by omega⟩, (by first | omega | (have t := K53; rw [show (8 - (0 : Int)).toNat = 8 by rfl] at q53; omega))⟩
          · refine l_iconst rfl ?_
            refine l_goto rfl rfl ?_
            refine l_ireturn rfl rfl ?_
            exact ⟨hHT1, hFT1, _, rfl, ⟨by omega, by omega⟩, (by first | omega | (have t := K53; rw [show (8 - (0 : Int)).toNat = 8 by rfl] at q53; omega))⟩
        · refine l_iconst rfl ?_
          refine l_ireturn rfl rfl ?_
          exact ⟨hH, hF, _, rfl, ⟨by omega, by omega⟩, (by first | omega | (have t := K53; rw [show (8 - (0 : Int)).toNat = 8 by rfl] at q53; omega))⟩
end
