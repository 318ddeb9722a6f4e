section
/-! 1: the reference: the words of a command -/
/-- what the reference keeps of it -/
def kfR (S : sS) (a e : Int) : Prop := ky7 (Xj S 911) (c32 (Xi S 906) a.toNat (e - a).toNat) (-1) = -1
def GPRR (S T : sS) (l : List (Int × Int)) : Prop := Xi T 904 150 = l.length ∧ ∀ (j : Nat) (h : j < l.length), j < 3 → Xj T 991 j = c32 (Xi S 906) l[j].1.toNat (l[j].2 - l[j].1).toNat
def GLCR (S T : sS) (to a i : Int) : Prop := ∃ l, GPRR S T l ∧ GWC (Xi S 906) (kfR S) to a i l
def GPOR (S T : sS) (a to z : Int) : Prop := z = (gWv (Xi S 906) (kfR S) to a).1 ∧ (z ≠ -1 → GPRR S T (gWv (Xi S 906) (kfR S) to a).2)
theorem rglc_0 {S T : sS} {to a : Int} (h : Xi T 904 150 = 0) : GLCR S T to a a := ⟨[], ⟨h, fun j q => absurd q (Nat.not_lt_zero _)⟩, gwc_0⟩
theorem rglc_b {S T : sS} {to a i : Int} (c : GLCR S T to a i) (h0 : i < to) (h : Xi S 906 i.toNat = 32) : GLCR S T to a (i + 1) := by
  obtain ⟨l, g, k⟩ := c
  exact ⟨l, g, gwc_b k h0 h⟩
theorem rglc_w {S T U : sS} {to a i e w : Int} (c : GLCR S T to a i) (h0 : i < to) (h : Xi S 906 i.toNat ≠ 93 ∧ Xi S 906 i.toNat ≠ 32) (he : e = we7 (Xi S 906) to i) (h1 : e ≠ i ∧ e - i ≤ 12) (hw : w = c32 (Xi S 906) i.toNat (e - i).toNat) (hk : ky7 (Xj S 911) w (-1) = -1) (u1 : Xi U 904 150 = Xi T 904 150 + 1) (u2 : Xi T 904 150 < 3 → Xj U 991 (Xi T 904 150).toNat = w) (u3 : ∀ j : Nat, (j : Int) < Xi T 904 150 → Xj U 991 j = Xj T 991 j) : GLCR S U to a e := by
  obtain ⟨l, g, k⟩ := c
  refine ⟨l ++ [(i, e)], ⟨by rw [u1, g.1, List.length_append]; rfl, fun j hj h3 => ?_⟩, gwc_w k h0 h he h1 (by unfold kfR; rw [← hw]; exact hk)⟩
  have gl := g.1
  by_cases q : j < l.length
  · rw [u3 j (by omega), g.2 j q h3, List.getElem_append_left q]
  · have hj2 : j = l.length := by rw [List.length_append] at hj; simp only [List.length_cons, List.length_nil] at hj; omega
    subst hj2
    have x := u2 (by omega)
    rw [show (Xi T 904 150).toNat = l.length by omega] at x
    rw [x, hw]
    simp only [List.getElem_append_right (Nat.le_refl _), Nat.sub_self, List.getElem_cons_zero]
theorem rglc_z {S T : sS} {to a i : Int} (c : GLCR S T to a i) (hb : (to - a).toNat < 6000) (h0 : to ≤ i) : GPOR S T a to (-1) := by
  obtain ⟨l, g, k⟩ := c
  have r := gwc_v k hb (gw_z h0)
  exact ⟨by rw [← r], fun q => absurd rfl q⟩
theorem rglc_x {S T : sS} {to a i e w : Int} (c : GLCR S T to a i) (hb : (to - a).toNat < 6000) (h0 : i < to) (h : Xi S 906 i.toNat ≠ 93 ∧ Xi S 906 i.toNat ≠ 32) (he : e = we7 (Xi S 906) to i) (h1 : e = i ∨ 12 < e - i ∨ (e - i ≤ 12 ∧ w = c32 (Xi S 906) i.toNat (e - i).toNat ∧ ky7 (Xj S 911) w (-1) ≠ -1)) : GPOR S T a to (-1) := by
  obtain ⟨l, g, k⟩ := c
  have r := gwc_v k hb (gw_x h0 h he (by
    rcases h1 with q | q | q
    · exact Or.inl q
    · exact Or.inr (Or.inl q)
    · exact Or.inr (Or.inr (by unfold kfR; rw [← q.2.1]; exact q.2.2))))
  exact ⟨by rw [← r], fun q => absurd rfl q⟩
theorem rglc_y {S T : sS} {to a i z : Int} (c : GLCR S T to a i) (hb : (to - a).toNat < 6000) (h0 : i < to) (h : Xi S 906 i.toNat = 93) (hz : (0 < Xi T 904 150 ∧ z = i + 1) ∨ (Xi T 904 150 ≤ 0 ∧ z = -1)) : GPOR S T a to z := by
  obtain ⟨l, g, k⟩ := c
  have gl := g.1
  by_cases q : l = []
  · have e := gw_y (kf := kfR S) (l := l) h0 h
    rw [if_pos q] at e
    have r := gwc_v k hb e
    have : z = -1 := by rw [q] at gl; simp only [List.length_nil] at gl; omega
    exact ⟨by rw [← r]; exact this, fun w => absurd this w⟩
  · have e := gw_y (kf := kfR S) (l := l) h0 h
    rw [if_neg q] at e
    have r := gwc_v k hb e
    have p : 0 < l.length := List.length_pos_iff.mpr q
    exact ⟨by rw [← r]; show z = i + 1; omega, fun _ => by rw [← r]; exact g⟩
theorem rglc_ws {S T P U : sS} {to a i e w : Int} (c : GLCR S T to a i) (h0 : i < to) (h : Xi S 906 i.toNat ≠ 93 ∧ Xi S 906 i.toNat ≠ 32) (he : e = we7 (Xi S 906) to i) (h1 : e ≠ i ∧ e - i ≤ 12) (hw : w = c32 (Xi S 906) i.toNat (e - i).toNat) (hk : ky7 (Xj S 911) w (-1) = -1) (hr : rgL w) (hb : 0 ≤ Xi T 904 150 ∧ Xi T 904 150 < 3) (e1 : P = uJ T 991 (Xi T 904 150).toNat (Int64.ofInt w)) (e2 : U = uI P 904 150 (Int32.ofInt (Xi T 904 150 + 1))) : GLCR S U to a e := by
  refine rglc_w c h0 h he h1 hw hk (by rw [e2, Xi_same (by unfold rg; omega)]) (fun _ => by rw [e2, Xj_I, e1, Xj_same hr]) (fun j hj => by rw [e2, Xj_I, e1, Xj_ne (by omega)])
theorem rglc_wk {S T U : sS} {to a i e w : Int} (c : GLCR S T to a i) (h0 : i < to) (h : Xi S 906 i.toNat ≠ 93 ∧ Xi S 906 i.toNat ≠ 32) (he : e = we7 (Xi S 906) to i) (h1 : e ≠ i ∧ e - i ≤ 12) (hw : w = c32 (Xi S 906) i.toNat (e - i).toNat) (hk : ky7 (Xj S 911) w (-1) = -1) (hb : 3 ≤ Xi T 904 150 ∧ Xi T 904 150 ≤ 6000) (e2 : U = uI T 904 150 (Int32.ofInt (Xi T 904 150 + 1))) : GLCR S U to a e := by
  refine rglc_w c h0 h he h1 hw hk (by rw [e2, Xi_same (by unfold rg; omega)]) (fun q => absurd q (by omega)) (fun j hj => by rw [e2, Xj_I])
theorem we7_x {B : Nat → Int} {e p q : Int} (h : we7 B e p = we7 B e q) (hq : e ≤ q ∨ ltr (B q.toNat) = 0) : q = we7 B e p := by
  rw [h]
  rcases hq with w | w
  · exact (we7_e w).symm
  · exact (we7_n (lt7_0 w)).symm
theorem we7_t {B : Nat → Int} {e p q : Int} (h : we7 B e p = we7 B e q) (hq : q < e) (w : ltr (B q.toNat) = 1) : we7 B e p = we7 B e (q + 1) := h.trans (we7_s hq (by have := (lt7_l w).2; omega))
theorem kyR_y {K : Nat → Int} {w z : Int} (h : z = (if ky7 K w (-1) = -1 then 3 else 100 + ky7 K w (-1))) (hz : z = 3) (hr : ky7 K w (-1) = -1 ∨ 0 ≤ ky7 K w (-1)) : ky7 K w (-1) = -1 := by
  by_cases q : ky7 K w (-1) = -1
  · exact q
  · rw [if_neg q] at h; omega
theorem kyR_n {K : Nat → Int} {w z : Int} (h : z = (if ky7 K w (-1) = -1 then 3 else 100 + ky7 K w (-1))) (hz : z ≠ 3) : ky7 K w (-1) ≠ -1 := fun q => by rw [if_pos q] at h; exact hz h
theorem kyF_rn {K : Nat → Int} {c : Int} : ∀ (n : Nat) (v : Int), 0 ≤ v → kyF K c (-1) n v = -1 ∨ 0 ≤ kyF K c (-1) n v
  | 0, v, h => Or.inl rfl
  | n + 1, v, h => by
    rw [kyF]
    split
    · exact Or.inr h
    · exact kyF_rn n (v + 1) (by omega)
theorem BYT_R {l : List rec} {S T : sS} (h : FR l S T) (e : kdis l [(906, 907)] = true) (b : BYT S 906) : BYT T 906 := fun j => by rw [(h.smk e).x 906 rfl j]; exact b j

/-! 1: the reference: the whole text -/
def TXRR (S T : sS) (l : List (Int × Int)) (gi : Int) (g : List (Int × Int)) : Prop :=
  Xi T 904 151 = l.length ∧ (gi = -1 ∨ (0 ≤ gi ∧ gi < l.length)) ∧ l.length ≤ 8 ∧ Xi T 904 150 = g.length ∧ (gi = -1 → g = []) ∧ (gi ≠ -1 → g ≠ [] ∧ GPRR S T g) ∧
  ∀ (j : Nat) (h : j < l.length), Xj T 992 j = if (j : Int) = gi then 0 else c32 (Xi S 906) l[j].1.toNat (l[j].2 - l[j].1).toNat
def bdR (S : sS) (to a : Int) : Prop := (tWv (Xi S 906) (kfR S) to a).1 = 0
def TLCR (S T : sS) (to a i b : Int) : Prop := ∃ l gi g, TXRR S T l gi g ∧
  ((b ≠ 0 ∨ ¬ (i < to ∧ Xi S 906 i.toNat ≠ 32)) → TWC (Xi S 906) (kfR S) to a i l gi g) ∧ (b = 0 → i < to → Xi S 906 i.toNat ≠ 32 → bdR S to a)
def TXOR (S T : sS) (a to z : Int) : Prop := z = (tWv (Xi S 906) (kfR S) to a).1 ∧ (z = 1 → TXRR S T (tWv (Xi S 906) (kfR S) to a).2.1 (tWv (Xi S 906) (kfR S) to a).2.2.1 (tWv (Xi S 906) (kfR S) to a).2.2.2)
theorem tcr_0 {S T : sS} {to a : Int} (h : Xi T 904 151 = 0) (h2 : Xi T 904 150 = 0) : TLCR S T to a a 1 := ⟨[], -1, [], ⟨h, Or.inl rfl, by decide, h2, fun _ => rfl, fun q => absurd rfl q, fun j q => absurd q (Nat.not_lt_zero _)⟩, fun _ n _ w => ⟨n, w⟩, fun q => absurd q (by decide)⟩
theorem tcr_b {S T : sS} {to a i b : Int} (c : TLCR S T to a i b) (h0 : i < to) (h : Xi S 906 i.toNat = 32) : TLCR S T to a (i + 1) 1 := by
  obtain ⟨l, gi, g, x, k, _⟩ := c
  exact ⟨l, gi, g, x, fun _ m r w => k (Or.inr (fun q => q.2 h)) (m + 1) r (by rw [tWk, if_neg (by omega), if_pos h]; exact w), fun q => absurd q (by decide)⟩
theorem tcr_x {S T : sS} {to a i b n : Int} (c : TLCR S T to a i b) (hb : 0 ≤ a ∧ to < 5999) (hn : n = Xi T 904 151) (h0 : i < to) (h : Xi S 906 i.toNat ≠ 32) (q : b = 0 ∨ n = 8) : bdR S to a := by
  obtain ⟨l, gi, g, x, k, kb⟩ := c
  by_cases b0 : b = 0
  · exact kb b0 h0 h
  · have r := twc_v (k (Or.inl b0)) hb (by rw [tWk, if_neg (by omega), if_neg h, if_pos (Or.inl (by have := x.1; omega))])
    unfold bdR
    rw [← r]
theorem tcr_n {S T : sS} {to a i b : Int} (c : TLCR S T to a i b) (hb : 0 ≤ a ∧ to < 5999) (b0 : b ≠ 0) (h0 : i < to) (h : Xi S 906 i.toNat ≠ 32) (hl : ltr (Xi S 906 i.toNat) = 0) (q : Xi S 906 i.toNat ≠ 91 ∨ Xi T 904 150 ≠ 0) : bdR S to a := by
  obtain ⟨l, gi, g, x, k, kb⟩ := c
  unfold bdR
  by_cases w8 : l.length = 8 ∨ (Xi S 906 i.toNat = 91 ∧ gi ≠ -1)
  · have r := twc_v (k (Or.inl b0)) hb (by rw [tWk, if_neg (by omega), if_neg h, if_pos w8])
    rw [← r]
  · by_cases w91 : Xi S 906 i.toNat = 91
    · exfalso
      have g0 : gi = -1 := Classical.byContradiction (fun z => w8 (Or.inr ⟨w91, z⟩))
      have e := x.2.2.2.1
      rw [x.2.2.2.2.1 g0] at e
      simp only [List.length_nil] at e
      omega
    · have e : we7 (Xi S 906) to i = i := we7_n (lt7_0 hl)
      have r := twc_v (k (Or.inl b0)) hb (by rw [tWk, if_neg (by omega), if_neg h, if_neg w8, if_neg w91, if_pos (Or.inl e)])
      rw [← r]
theorem ltr_91 {c : Int} (h : ltr c = 1) : c ≠ 91 ∧ c ≠ 32 := ⟨fun q => by rw [q] at h; exact absurd h (by decide), fun q => by rw [q] at h; exact absurd h (by decide)⟩
theorem tcr_l {S T : sS} {to a i b e n : Int} (c : TLCR S T to a i b) (hb : 0 ≤ a ∧ to < 5999) (b0 : b ≠ 0) (h0 : i < to) (hl : ltr (Xi S 906 i.toNat) = 1) (hn : n = Xi T 904 151) (h8 : n ≠ 8) (he : e = we7 (Xi S 906) to i) (q : 12 < e - i) : bdR S to a := by
  obtain ⟨l, gi, g, x, k, kb⟩ := c
  have u := ltr_91 hl
  have r := twc_v (k (Or.inl b0)) hb (by rw [tWk, if_neg (by omega), if_neg u.2, if_neg (fun w => by rcases w with w | w; (have := x.1; omega); exact u.1 w.1), if_neg u.1, ← he, if_pos (Or.inr (Or.inl q))])
  unfold bdR
  rw [← r]
theorem tcr_w {S T P U : sS} {to a i b e n w : Int} (c : TLCR S T to a i b) (hb : 0 ≤ a ∧ to < 5999) (b0 : b ≠ 0) (h0 : i < to) (hl : ltr (Xi S 906 i.toNat) = 1) (hn : n = Xi T 904 151) (h8 : 0 ≤ n ∧ n ≠ 8) (he : e = we7 (Xi S 906) to i) (h1 : i < e ∧ e - i ≤ 12) (hw : w = c32 (Xi S 906) i.toNat (e - i).toNat) (hr : rgL w) (eP : P = uJ T 992 n.toNat (Int64.ofInt w)) (eU : U = uI P 904 151 (Int32.ofInt (n + 1))) : TLCR S U to a e 0 := by
  obtain ⟨l, gi, g, x, k, kb⟩ := c
  have u := ltr_91 hl
  have x1 := x.1
  have x3 := x.2.2.1
  have st : ∀ m, tWk (Xi S 906) (kfR S) to (m + 1) i l gi g = if e = i ∨ 12 < e - i ∨ (e < to ∧ Xi S 906 e.toNat ≠ 32) then some (0, l, gi, g) else tWk (Xi S 906) (kfR S) to m e (l ++ [(i, e)]) gi g := fun m => by
    rw [tWk, if_neg (by omega), if_neg u.2, if_neg (fun w => by rcases w with w | w; omega; exact u.1 w.1), if_neg u.1, ← he]
  refine ⟨l ++ [(i, e)], gi, g, ⟨?_, ?_, ?_, ?_, x.2.2.2.2.1, fun p => ⟨(x.2.2.2.2.2.1 p).1, ?_⟩, fun j hj => ?_⟩, fun hh m r y => k (Or.inl b0) (m + 1) r ?_, fun _ p q => ?_⟩
  · rw [eU, Xi_same (by unfold rg; omega), List.length_append]; simp only [List.length_cons, List.length_nil]; omega
  · rcases x.2.1 with p | p
    · exact Or.inl p
    · exact Or.inr ⟨p.1, by rw [List.length_append]; omega⟩
  · rw [List.length_append]; simp only [List.length_cons, List.length_nil]; omega
  · rw [eU, Xi_ne (by omega), eP]; exact x.2.2.2.1
  · have G := (x.2.2.2.2.2.1 p).2
    exact ⟨by rw [eU, Xi_ne (by omega), eP]; exact G.1, fun j a b => by rw [eU, Xj_I, eP, Xj_ne (by omega)]; exact G.2 j a b⟩
  · by_cases p : j < l.length
    · rw [eU, Xj_I, eP, Xj_ne (by omega), x.2.2.2.2.2.2 j p, List.getElem_append_left p]
    · have hj2 : j = l.length := by rw [List.length_append] at hj; simp only [List.length_cons, List.length_nil] at hj; omega
      subst hj2
      rw [if_neg (by have := x.2.1; omega), eU, Xj_I, eP, show n.toNat = l.length by omega, Xj_same hr, hw]
      simp only [List.getElem_append_right (Nat.le_refl _), Nat.sub_self, List.getElem_cons_zero]
  · rw [st, if_neg (by rcases hh with hh | hh; exact absurd rfl hh; (rintro (w | w | w); omega; omega; exact hh w))]; exact y
  · have r := twc_v (k (Or.inl b0)) hb (by rw [show (1 : Nat) = 0 + 1 from rfl, st, if_pos (Or.inr (Or.inr ⟨p, q⟩))])
    unfold bdR
    rw [← r]
theorem gwk_pos {B : Nat → Int} {kf : Int → Int → Prop} {to : Int} : ∀ (n : Nat) (i : Int) (l : List (Int × Int)) (r : Int × List (Int × Int)), gWk B kf to n i l = some r → r.1 ≠ -1 → 0 < r.2.length
  | 0, i, l, r, h, _ => by cases h
  | n + 1, i, l, r, h, hz => by
    rw [gWk] at h
    by_cases a : to ≤ i
    · rw [if_pos a] at h; injection h with h; rw [← h] at hz; exact absurd rfl hz
    rw [if_neg a] at h
    by_cases b : B i.toNat = 93
    · rw [if_pos b] at h
      by_cases c : l = []
      · rw [if_pos c] at h; injection h with h; rw [← h] at hz; exact absurd rfl hz
      · rw [if_neg c] at h; injection h with h; rw [← h]; exact List.length_pos_iff.mpr c
    rw [if_neg b] at h
    by_cases c : B i.toNat = 32
    · rw [if_pos c] at h; exact gwk_pos n _ _ r h hz
    rw [if_neg c] at h
    by_cases d : we7 B to i = i ∨ 12 < we7 B to i - i ∨ ¬ kf i (we7 B to i)
    · rw [if_pos d] at h; injection h with h; rw [← h] at hz; exact absurd rfl hz
    rw [if_neg d] at h
    exact gwk_pos n _ _ r h hz
theorem gwv_pos {B : Nat → Int} {kf : Int → Int → Prop} {to i : Int} (h : (to - i).toNat < 6000) (hz : (gWv B kf to i).1 ≠ -1) : 0 < (gWv B kf to i).2.length := by
  obtain ⟨r, e⟩ := gw_end (B := B) (kf := kf) (to := to) 6000 i [] h
  have u := gw_V e h
  rw [← u] at hz ⊢
  exact gwk_pos _ _ _ _ e hz
theorem tcr_g1 {S T : sS} {to a i b z n : Int} (c : TLCR S T to a i b) (hb : 0 ≤ a ∧ to < 5999) (b0 : b ≠ 0) (h0 : i < to) (h : Xi S 906 i.toNat = 91) (hn : n = Xi T 904 151) (h8 : n ≠ 8) (h5 : Xi T 904 150 = 0) (hz : z = (gWv (Xi S 906) (kfR S) to (i + 1)).1) (q : z = -1) : bdR S to a := by
  obtain ⟨l, gi, g, x, k, kb⟩ := c
  have x1 := x.1
  have g0 : gi = -1 := Classical.byContradiction (fun p => by
    have := List.length_pos_iff.mpr (x.2.2.2.2.2.1 p).1
    have e := x.2.2.2.1
    omega)
  have r := twc_v (k (Or.inl b0)) hb (by rw [tWk, if_neg (by omega), if_neg (by omega), if_neg (fun w => by rcases w with w | w; omega; exact w.2 g0), if_pos h, ← hz, if_pos (Or.inl q)])
  unfold bdR
  rw [← r]
theorem tcr_g {l1 : List rec} {S T G P U : sS} {to a i b z n m : Int} (c : TLCR S T to a i b) (hi0 : 0 ≤ i) (hb : 0 ≤ a ∧ to < 5999) (b0 : b ≠ 0) (h0 : i < to) (h : Xi S 906 i.toNat = 91) (hn : n = Xi T 904 151) (h8 : 0 ≤ n ∧ n ≠ 8) (h5 : Xi T 904 150 = 0) (F : FR l1 T G) (f1 : kdis l1 [(992, 993)] = true) (f2 : mdf l1 904 151 = false) (o : GPOR S G (i + 1) to z) (hz : z ≠ -1) (hm : m = n) (eP : P = uJ G 992 m.toNat (Int64.ofInt 0)) (eU : U = uI P 904 151 (Int32.ofInt (n + 1))) : TLCR S U to a z 0 := by
  obtain ⟨l, gi, g, x, k, kb⟩ := c
  have x1 := x.1
  have x3 := x.2.2.1
  have g0 : gi = -1 := Classical.byContradiction (fun p => by
    have := List.length_pos_iff.mpr (x.2.2.2.2.2.1 p).1
    have e := x.2.2.2.1
    omega)
  have O := o.2 hz
  have oz := o.1
  have gp : 0 < (gWv (Xi S 906) (kfR S) to (i + 1)).2.length := gwv_pos (by omega) (by rw [← oz]; exact hz)
  have st : ∀ m, tWk (Xi S 906) (kfR S) to (m + 1) i l gi g = if z = -1 ∨ (z < to ∧ Xi S 906 z.toNat ≠ 32) then some (0, l, gi, g) else tWk (Xi S 906) (kfR S) to m z (l ++ [(-1, -1)]) l.length (gWv (Xi S 906) (kfR S) to (i + 1)).2 := fun m => by
    rw [tWk, if_neg (by omega), if_neg (by omega), if_neg (fun w => by rcases w with w | w; omega; exact w.2 g0), if_pos h, ← oz]
  refine ⟨l ++ [(-1, -1)], l.length, (gWv (Xi S 906) (kfR S) to (i + 1)).2, ⟨?_, ?_, ?_, ?_, fun p => absurd p (by omega), fun _ => ⟨List.length_pos_iff.mp gp, ?_⟩, fun j hj => ?_⟩, fun hh m r y => k (Or.inl b0) (m + 1) r ?_, fun _ p q => ?_⟩
  · rw [eU, Xi_same (by unfold rg; omega), List.length_append]; simp only [List.length_cons, List.length_nil]; omega
  · exact Or.inr ⟨by omega, by rw [List.length_append]; simp only [List.length_cons, List.length_nil]; omega⟩
  · rw [List.length_append]; simp only [List.length_cons, List.length_nil]; omega
  · rw [eU, Xi_ne (by omega), eP]; exact O.1
  · exact ⟨by rw [eU, Xi_ne (by omega), eP]; exact O.1, fun j a b => by rw [eU, Xj_I, eP, Xj_ne (by omega)]; exact O.2 j a b⟩
  · by_cases p : j < l.length
    · rw [if_neg (by omega), eU, Xj_I, eP, Xj_ne (by omega), SMK_j (F.smk f1) 992 rfl, x.2.2.2.2.2.2 j p, if_neg (by omega), List.getElem_append_left p]
    · have hj2 : j = l.length := by rw [List.length_append] at hj; simp only [List.length_cons, List.length_nil] at hj; omega
      subst hj2
      rw [if_pos rfl, eU, Xj_I, eP, show m.toNat = l.length by omega, Xj_same (by unfold rgL; omega)]
  · rw [st, if_neg (by rcases hh with hh | hh; exact absurd rfl hh; (rintro (w | w); exact hz w; exact hh w))]; exact y
  · have r := twc_v (k (Or.inl b0)) hb (by rw [show (1 : Nat) = 0 + 1 from rfl, st, if_pos (Or.inr ⟨p, q⟩)])
    unfold bdR
    rw [← r]
theorem tcr_z {S T : sS} {to a i b z : Int} (c : TLCR S T to a i b) (hb : 0 ≤ a ∧ to < 5999) (h0 : to ≤ i) (hz : (0 < Xi T 904 151 ∧ z = 1) ∨ (Xi T 904 151 ≤ 0 ∧ z = 0)) : TXOR S T a to z := by
  obtain ⟨l, gi, g, x, k, kb⟩ := c
  have x1 := x.1
  have r := twc_v (k (Or.inr (fun q => by omega))) hb (by rw [tWk, if_pos h0])
  have hzz : z = if l = [] then 0 else 1 := by
    by_cases p : l = []
    · rw [if_pos p]; rw [p] at x1; simp only [List.length_nil] at x1; omega
    · rw [if_neg p]; have := List.length_pos_iff.mpr p; omega
  refine ⟨by rw [← r]; exact hzz, fun _ => ?_⟩
  rw [← r]
  exact x
theorem tcr_f {S T : sS} {to a z : Int} (c : bdR S to a) (hz : z = 0) : TXOR S T a to z := ⟨hz.trans c.symm, fun q => absurd (hz.symm.trans q) (by decide)⟩
theorem gpor_F {l : List rec} {S P U : sS} {a to z : Int} (h : FR l S P) (e : kdis l [(906, 907)] = true) (e2 : kdis l [(911, 912)] = true) (o : GPOR P U a to z) : GPOR S U a to z := by
  have x : Xi P 906 = Xi S 906 := funext (fun j => (h.smk e).x 906 rfl j)
  have y : Xj P 911 = Xj S 911 := funext (fun j => SMK_j (h.smk e2) 911 rfl j)
  have kk : kfR P = kfR S := by funext i j; unfold kfR; rw [x, y]
  unfold GPOR GPRR at o ⊢
  rw [x, kk] at o
  exact o

abbrev Q_mo_in__p (S : sS) (v : Int) (lo : Int) (hi : Int) : pst := fun r S1 => S = S1 ∧ (∃ z : Int, r = some (iv z) ∧ (0 ≤ z ∧ z ≤ 1) ∧ ((z = 1 → lo ≤ v ∧ v ≤ hi) ∧ (z = 0 → v < lo ∨ hi < v)))
set_option maxRecDepth 100000 in
theorem t_mo_in__p {S : sS} (hH : RI S) (v : Int) (lo : Int) (hi : Int) (hv : -2147483648 ≤ v ∧ v ≤ 2147483647) (hlo : -2147483648 ≤ lo ∧ lo ≤ 2147483647) (hhi : -2147483648 ≤ hi ∧ hi ≤ 2147483647) (d : Nat) : Mp lay0 (d + 1) m_mo_in [iv v, iv lo, iv hi] S (Q_mo_in__p S v lo hi) := by
  refine Mp_R rfl rfl (fun fu => ?_)
  refine y_iload_n rfl rfl ?_
  refine y_iload_n rfl rfl ?_
  refine y_icmp_lt rfl rfl (by unfold rg; omega) (by unfold rg; omega) (fun w1 => ?_) (fun w2 => ?_)
  · refine y_iconst rfl ?_
    refine y_ireturn rfl rfl ?_
    exact ⟨rfl, _, rfl, ⟨by omega, by omega⟩, (by omega)⟩
  · refine y_iload_n rfl rfl ?_
    refine y_iload_n rfl rfl ?_
    refine y_icmp_gt rfl rfl (by unfold rg; omega) (by unfold rg; omega) (fun w3 => ?_) (fun w4 => ?_)
    · refine y_iconst rfl ?_
      refine y_ireturn rfl rfl ?_
      exact ⟨rfl, _, rfl, ⟨by omega, by omega⟩, (by omega)⟩
    · refine y_iconst rfl ?_
      refine y_goto rfl rfl ?_
      refine y_ireturn rfl rfl ?_
      exact ⟨rfl, _, rfl, ⟨by omega, by omega⟩, (by omega)⟩
abbrev Q_mo_small__p (S : sS) (c : Int) : pst := fun r S1 => S = S1 ∧ (∃ z : Int, r = some (iv z) ∧ (-2147483648 ≤ z ∧ z ≤ 2147483647) ∧ (z = sml c))
set_option maxRecDepth 100000 in
theorem t_mo_small__p {S : sS} (hH : RI S) (c : Int) (hc : -128 ≤ c ∧ c ≤ 127) (d : Nat) : Mp lay0 (d + 2) m_mo_small [iv c] S (Q_mo_small__p S c) := by
  refine Mp_R rfl rfl (fun fu => ?_)
  refine y_iload_n rfl rfl ?_
  refine y_bipush rfl rfl ?_
  refine y_bipush rfl rfl ?_
  refine y_callS rfl rfl (by decide) rfl (t_mo_in__p hH c 65 90 ⟨by omega, by omega⟩ ⟨by omega, by omega⟩ ⟨by omega, by omega⟩ _) ?_
  rintro _ _ ⟨rfl, z2, rfl, w2, w1⟩
  show Pl _ _ _ _ _ _ [iv z2] _ _
  refine y_if_eq rfl rfl (by unfold rg; omega) (fun w3 => ?_) (fun w4 => ?_)
  · refine y_iload_n rfl rfl ?_
    refine y_ireturn rfl rfl ?_
    exact ⟨rfl, _, rfl, ⟨by omega, by omega⟩, (by unfold sml; first | exact (if_pos (by omega)).symm | exact (if_neg (by omega)).symm)⟩
  · refine y_iload_n rfl rfl ?_
    refine y_bipush rfl rfl ?_
    refine y_iadd rfl ?_
    refine y_goto rfl rfl ?_
    refine y_ireturn rfl rfl ?_
    exact ⟨rfl, _, rfl, ⟨by omega, by omega⟩, (by unfold sml; first | exact (if_pos (by omega)).symm | exact (if_neg (by omega)).symm)⟩
abbrev Q_mo_isLetter__p (S : sS) (c : Int) : pst := fun r S1 => S = S1 ∧ (∃ z : Int, r = some (iv z) ∧ (0 ≤ z ∧ z ≤ 1) ∧ (z = ltr c))
set_option maxRecDepth 100000 in
theorem t_mo_isLetter__p {S : sS} (hH : RI S) (c : Int) (hc : -128 ≤ c ∧ c ≤ 127) (d : Nat) : Mp lay0 (d + 3) m_mo_isLetter [iv c] S (Q_mo_isLetter__p S c) := by
  refine Mp_R rfl rfl (fun fu => ?_)
  refine y_iload_n rfl rfl ?_
  refine y_callS rfl rfl (by decide) rfl (t_mo_small__p hH c ⟨by omega, by omega⟩ _) ?_
  rintro _ _ ⟨rfl, z1, rfl, w1, q1⟩
  show Pl _ _ _ _ _ _ [iv z1] _ _
  have s1 : -128 ≤ z1 ∧ z1 ≤ 160 := by rw [q1]; unfold sml; split <;> omega
  refine y_bipush rfl rfl ?_
  refine y_bipush rfl rfl ?_
  refine y_callS rfl rfl (by decide) rfl (t_mo_in__p hH z1 97 122 ⟨by omega, by omega⟩ ⟨by omega, by omega⟩ ⟨by omega, by omega⟩ _) ?_
  rintro _ _ ⟨rfl, z3, rfl, w3, w2⟩
  show Pl _ _ _ _ _ _ [iv z3] _ _
  refine y_ireturn rfl (retI_z (by omega)) ?_
  exact ⟨rfl, _, rfl, ⟨by omega, by omega⟩, (by unfold ltr; rw [← q1]; exact ltr_of (by omega) (by assumption))⟩
abbrev Q_mo_wordOf__p (S : sS) (t : Nat) (from_ : Int) (n : Int) : pst := fun r S1 => S = S1 ∧ (∃ z : Int, r = some (jw z) ∧ (z = c32 (Xi S t) from_.toNat n.toNat) ∧ (rgL z))
set_option maxRecDepth 100000 in
theorem t_mo_wordOf__p {S : sS} (hH : RI S) (t : Nat) (from_ : Int) (n : Int) (ht : bp t) (hfrom_ : 0 ≤ from_ ∧ from_ ≤ 5000) (hn : 0 ≤ n ∧ n ≤ 12) (hby : BYT S t) (hl : ∀ i : Nat, from_ ≤ (i : Int) → (i : Int) < from_ + n → ltr (Xi S t i) = 1) (d : Nat) : Mp lay0 (d + 3) m_mo_wordOf [.ref t, iv from_, iv n] S (Q_mo_wordOf__p S t from_ n) := by
  refine Mp_R rfl rfl (fun fu => ?_)
  have C5 : ∀ (n5 : Nat) (_ : n5 ≤ fu) (v3 : Int) (v5 : Int), (0 ≤ v5 ∧ v5 ≤ 12) → (0 ≤ v5 ∧ v5 ≤ n) → (v3 = c32 (Xi S t) from_.toNat (v5).toNat) → Pl n5 lay0 (d + 2) m_mo_wordOf 5 [(0, .ref t), (1, iv from_), (2, iv n), (3, jw v3), (5, iv v5)] [] S (Q_mo_wordOf__p S t from_ n) := by
    intro n5
    induction n5 with
    | zero => intros; exact Pl_0
    | succ n5 ih5 =>
      intro hm5 v3 v5 w1 w2 c5
      refine ys_iload rfl rfl ?_
      refine y_iload_n rfl rfl ?_
      refine y_icmp_ge rfl rfl (by unfold rg; omega) (by unfold rg; omega) (fun w3 => ?_) (fun w4 => ?_)
      · refine y_lload_n rfl rfl ?_
        refine y_lreturn rfl rfl ?_
        exact ⟨rfl, _, rfl, (by rw [c5, show v5 = n by omega]), (by rw [c5]; exact c32_g (by omega))⟩
      · refine y_lload_n rfl rfl ?_
        refine y_iconst rfl ?_
        refine y_lshlF rfl ?_
        have w5 : rgL (lshlF v3 5) := lshlF_rg
        refine y_aload_n rfl rfl ?_
        refine y_iload_n rfl rfl ?_
        refine y_iload rfl rfl ?_
        refine y_iadd rfl ?_
        refine y_baloadP (n := 5000) rfl (bp_sv (by assumption)) (lay_bp (by assumption)) (by decide) (by unfold rg; omega) (fun w6 w7 => ?_)
        have w8 : -2147483648 ≤ (Xi S t (((from_ + v5)).toNat)) ∧ (Xi S t (((from_ + v5)).toNat)) ≤ 2147483647 := Xi_rgI
        have b19 := hby (from_ + v5).toNat
        refine y_callS rfl rfl (by decide) rfl (t_mo_small__p hH (Xi S t (((from_ + v5)).toNat)) ⟨by omega, by omega⟩ _) ?_
        rintro _ _ ⟨rfl, z9, rfl, w9, s20⟩
        show Pl _ _ _ _ _ _ [iv z9, jw (lshlF v3 5)] _ _
        have m20 : -128 ≤ z9 ∧ z9 ≤ 160 := by rw [s20]; unfold sml; split <;> omega
        refine y_bipush rfl rfl ?_
        refine y_isub rfl ?_
        refine y_i2l rfl (by unfold rg; omega) ?_
        refine y_lorF rfl ?_
        have w10 : rgL (lorF (lshlF v3 5) (z9 - 96)) := lorF_rg
        refine y_lstore_n rfl rfl rfl rfl ?_
        refine y_iinc rfl rfl rfl rfl ?_
        refine y_goto rfl rfl ?_
        exact Pl_weak (ih5 (by omega) ((lorF (lshlF v3 5) (z9 - 96))) ((v5 + 1)) (by omega) (by omega) (by first | rfl | exact w32_s c5 s20 (hl (from_ + v5).toNat (by omega) (by omega)) (by omega) (by omega) (by omega))) (by omega) (And.intro rfl (And.intro rfl (And.intro rfl (And.intro rfl (And.intro rfl (True.intro))))))
  refine y_lconst (z := 0) rfl rfl ?_
  refine y_lstore_n rfl rfl rfl rfl ?_
  refine y_iconst rfl ?_
  refine y_istore rfl rfl rfl ?_
  exact Pl_weak (C5 fu (by omega) (0) (0) (by omega) (by omega) (by first | rfl | exact w32_s c5 s20 (hl (from_ + v5).toNat (by omega) (by omega)) (by omega) (by omega) (by omega))) (by omega) (And.intro rfl (And.intro rfl (And.intro rfl (And.intro rfl (And.intro rfl (True.intro))))))
abbrev Q_mo_keyOf__p (S : sS) (w : Int) : pst := fun r S1 => S = S1 ∧ (∃ z : Int, r = some (iv z) ∧ (-2147483648 ≤ z ∧ z ≤ 2147483647) ∧ (z = (if ky7 (Xj S 911) w (-1) = -1 then 3 else 100 + ky7 (Xj S 911) w (-1))))
set_option maxRecDepth 100000 in
theorem t_mo_keyOf__p {S : sS} (hH : RI S) (w : Int) (hw : rgL w) (d : Nat) : Mp lay0 (d + 1) m_mo_keyOf [.ref 904, jw w] S (Q_mo_keyOf__p S w) := by
  refine Mp_R rfl rfl (fun fu => ?_)
  have hw2 : -9223372036854775808 ≤ w ∧ w < 9223372036854775808 := hw
  have C2 : ∀ (n2 : Nat) (_ : n2 ≤ fu) (v3 : Int), (0 ≤ v3 ∧ v3 ≤ 55) → (0 ≤ v3 ∧ v3 ≤ 55) → (ky7 (Xj S 911) w (-1) = kyF (Xj S 911) w (-1) (55 - v3).toNat v3) → Pl n2 lay0 (d + 0) m_mo_keyOf 2 [(0, .ref 904), (1, jw w), (3, iv v3)] [] S (Q_mo_keyOf__p S w) := by
    intro n2
    induction n2 with
    | zero => intros; exact Pl_0
    | succ n2 ih2 =>
      intro hm2 v3 w1 w2 k2
      refine ys_iload_n rfl rfl ?_
      refine y_bipush rfl rfl ?_
      refine y_icmp_ge rfl rfl (by unfold rg; omega) (by unfold rg; omega) (fun w3 => ?_) (fun w4 => ?_)
      · refine y_iconst rfl ?_
        refine y_ireturn rfl rfl ?_
        exact ⟨rfl, _, rfl, ⟨by omega, by omega⟩, (by first | exact kr_h k2 (by omega) (by omega) (by omega) | exact kr_e k2 (by omega))⟩
      · refine y_aload_n rfl rfl ?_
        refine y_gfr rfl rfl rfl rfl rfl (hH.r 904 9 911 rfl) ?_
        refine y_iload_n rfl rfl ?_
        refine y_laloadP (n := 55) rfl rfl (by unfold rg; omega) (fun w5 w6 => ?_)
        have w7 : -9223372036854775808 ≤ (Xj S 911 ((v3).toNat)) ∧ (Xj S 911 ((v3).toNat)) < 9223372036854775808 := Xj_rg
        refine y_lload_n rfl rfl ?_
        refine y_lcmp rfl (by unfold rgL; omega) (by unfold rgL; omega) (fun c8 w8 w8a w8b w8c => ?_)
        refine y_if_ne rfl rfl (by unfold rg; omega) (fun w9 => ?_) (fun w10 => ?_)
        · refine y_iinc rfl rfl rfl rfl ?_
          refine y_goto rfl rfl ?_
          exact Pl_weak (ih2 (by omega) ((v3 + 1)) (by omega) (by omega) (by first | rfl | exact k2.trans (kyF_s (by omega) (by omega)))) (by omega) (And.intro rfl (And.intro rfl (And.intro rfl (True.intro))))
        · refine y_bipush rfl rfl ?_
          refine y_iload_n rfl rfl ?_
          refine y_iadd rfl ?_
          refine y_ireturn rfl rfl ?_
          exact ⟨rfl, _, rfl, ⟨by omega, by omega⟩, (by first | exact kr_h k2 (by omega) (by omega) (by omega) | exact kr_e k2 (by omega))⟩
  refine y_iconst rfl ?_
  refine y_istore_n rfl rfl rfl ?_
  exact Pl_weak (C2 fu (by omega) (0) (by omega) (by omega) (by first | rfl | exact k2.trans (kyF_s (by omega) (by omega)))) (by omega) (And.intro rfl (And.intro rfl (And.intro rfl (True.intro))))
def md_mo_slot__p : List rec := [(904, 905, 150, 151), (991, 992, 0, 100000)]
abbrev Q_mo_slot__p (S : sS) (from_ : Int) (end_ : Int) : pst := fun r S1 => RI S1 ∧ FR md_mo_slot__p S S1 ∧ (∃ z : Int, r = some (iv z) ∧ (-2147483648 ≤ z ∧ z ≤ 2147483647) ∧ (GPOR S S1 from_ end_ z) ∧ (z = -1 ∨ (from_ < z ∧ z ≤ end_)))
set_option maxRecDepth 100000 in
theorem t_mo_slot__p {S : sS} (hH : RI S) (from_ : Int) (end_ : Int) (hfrom_ : 0 ≤ from_ ∧ from_ ≤ 5000) (hend_ : 0 ≤ end_ ∧ end_ ≤ 5000) (hb6 : BYT S 906) (hfe : from_ ≤ end_) (h0 : Xi S 904 150 = 0) (d : Nat) : Mp lay0 (d + 4) m_mo_slot [.ref 904, iv from_, iv end_] S (Q_mo_slot__p S from_ end_) := by
  refine Mp_R rfl rfl (fun fu => ?_)
  have hF : FR md_mo_slot__p S S := FR.rf
  have w1 : -2147483648 ≤ Xi S 904 150 ∧ Xi S 904 150 ≤ 2147483647 := Xi_rgI
  have C2 : ∀ (n2 : Nat) (_ : n2 ≤ fu) (T1 : sS) (_ : RI T1) (_ : FR md_mo_slot__p S T1) (v3 : Int), (0 ≤ v3 ∧ v3 ≤ 5000) → (from_ ≤ v3 ∧ v3 ≤ end_) → (0 ≤ Xi T1 904 150 ∧ Xi T1 904 150 ≤ v3) → (Hid (GLCR S T1 end_ from_ v3)) → Pl n2 lay0 (d + 3) m_mo_slot 2 [(0, .ref 904), (2, iv end_), (3, iv v3)] [] T1 (Q_mo_slot__p S from_ end_) := by
    intro n2
    induction n2 with
    | zero => intros; exact Pl_0
    | succ n2 ih2 =>
      intro hm2 T1 hHT1 hFT1 v3 w2 w3 w4 G2
      have w5 : -2147483648 ≤ Xi T1 904 150 ∧ Xi T1 904 150 ≤ 2147483647 := Xi_rgI
      have C50 : ∀ (n50 : Nat) (_ : n50 ≤ n2) (T2 : sS) (_ : RI T2) (_ : FR md_mo_slot__p S T2) (v3 : Int) (v4 : Int), (0 ≤ v3 ∧ v3 ≤ 5000) → (0 ≤ v4 ∧ v4 ≤ 5000) → (from_ ≤ v3 ∧ v3 < end_) → (v3 ≤ v4 ∧ v4 ≤ end_) → (0 ≤ Xi T2 904 150 ∧ Xi T2 904 150 ≤ v3) → (Xi S 906 (v3).toNat ≠ 93 ∧ Xi S 906 (v3).toNat ≠ 32) → (v4 = v3 → ltr (Xi S 906 (v3).toNat) = 1) → (Hid (GLCR S T2 end_ from_ v3)) → (we7 (Xi S 906) end_ v3 = we7 (Xi S 906) end_ v4) → (Hid (∀ j : Nat, v3 ≤ (j : Int) → (j : Int) < v4 → ltr (Xi S 906 j) = 1)) → Pl n50 lay0 (d + 3) m_mo_slot 50 [(0, .ref 904), (2, iv end_), (3, iv v3), (4, iv v4)] [] T2 (Q_mo_slot__p S from_ end_) := by
        intro n50
        induction n50 with
        | zero => intros; exact Pl_0
        | succ n50 ih50 =>
          intro hm50 T2 hHT2 hFT2 v3 v4 w6 w7 w8 w9 w10 w11 f50 G50 w50 L50
          have w12 : -2147483648 ≤ Xi T2 904 150 ∧ Xi T2 904 150 ≤ 2147483647 := Xi_rgI
          refine ys_iload rfl rfl ?_
          refine y_iload_n rfl rfl ?_
          refine y_icmp_ge rfl rfl (by unfold rg; omega) (by unfold rg; omega) (fun w13 => ?_) (fun w14 => ?_)
          · refine y_iload rfl rfl ?_
            have K75 : True := trivial
            have e75 : v4 = we7 (Xi S 906) end_ v3 := we7_x w50 (by first | exact Or.inl (by omega) | exact Or.inr (by omega))
            have p75 : v3 < v4 := by by_cases q : v4 = v3; (have u := f50 q; first | omega | (rw [← q] at u; omega)); omega
            refine y_iload_n rfl rfl ?_
            refine y_isub rfl ?_
            refine y_bipush rfl rfl ?_
            refine y_icmp_gt rfl rfl (by unfold rg; omega) (by unfold rg; omega) (fun w15 => ?_) (fun w16 => ?_)
            · refine y_iconst rfl ?_
              refine y_ireturn rfl rfl ?_
              exact ⟨hHT2, hFT2, _, rfl, ⟨by omega, by omega⟩, (by first | (have u := K97; exact rglc_x G50.o (by omega) (by omega) (by omega) e75 (Or.inr (Or.inr ⟨by omega, c94, kyR_n k97 (by omega)⟩))) | (have u := K75; exact rglc_x (w := 0) G50.o (by omega) (by omega) (by omega) e75 (Or.inr (Or.inl (by omega)))) | (have u := l41; exact rglc_x (w := 0) (e := v3) G2.o (by omega) (by omega) (by omega) (we7_x rfl (Or.inr (by omega))) (Or.inl rfl)) | (have u := y12; exact rglc_y G2.o (by omega) (by omega) (by omega) (by omega)) | exact rglc_z G2.o (by omega) (by omega) | (exfalso; omega)), (by omega)⟩
            · refine y_aload_n rfl rfl ?_
              refine y_aload_n rfl rfl ?_
              refine y_gfr rfl rfl rfl rfl rfl (hHT2.r 904 2 906 rfl) ?_
              refine y_iload_n rfl rfl ?_
              refine y_iload rfl rfl ?_
              refine y_iload_n rfl rfl ?_
              refine y_isub rfl ?_
              refine y_callS rfl rfl (by decide) rfl (t_mo_wordOf__p hHT2 906 v3 (v4 - v3) (Or.inr rfl) ⟨by omega, by omega⟩ ⟨by omega, by omega⟩ (BYT_R hFT2 rfl hb6) (fun i a b => by rw [(hFT2.cx 906 rfl _).1]; exact L50.o i a (by omega)) _) ?_
              rintro _ _ ⟨rfl, z17, rfl, f94, g94⟩
              show Pl _ _ _ _ _ _ [jw z17, .ref 904] _ _
              have c94 : z17 = c32 (Xi S 906) (v3).toNat (v4 - v3).toNat := by have u := f94; rw [show Xi T2 906 = Xi S 906 from funext (fun j => (hFT2.cx 906 rfl j).1)] at u; exact u
              clear f94
              refine y_callV rfl rfl rfl (t_mo_keyOf__p hHT2 z17 (g94) _) ?_
              rintro _ _ ⟨rfl, z18, rfl, w18, f97⟩
              show Pl _ _ _ _ _ _ [iv z18] _ _
              have K97 : True := trivial
              have k97 := f97
              rw [show Xj T2 911 = Xj S 911 from funext (fun j => (hFT2.cx 911 rfl j).2)] at k97
              clear f97
              refine y_iconst rfl ?_
              refine y_icmp_eq rfl rfl (by unfold rg; omega) (by unfold rg; omega) (fun w19 => ?_) (fun w20 => ?_)
              · refine y_aload_n rfl rfl ?_
                refine y_gfi rfl rfl rfl rfl rfl ?_
                refine y_iconst rfl ?_
                refine y_icmp_ge rfl rfl (by unfold rg; omega) (by unfold rg; omega) (fun w21 => ?_) (fun w22 => ?_)
                · refine y_aload_n rfl rfl ?_
                  refine y_dup rfl rfl ?_
                  refine y_gfi rfl rfl rfl rfl rfl ?_
                  refine y_iconst rfl ?_
                  refine y_iadd rfl ?_
                  refine y_pfi rfl rfl rfl rfl ?_
                  obtain ⟨U3, eU3⟩ : ∃ T : sS, T = uI T2 904 150 (Int32.ofInt ((Xi T2 904 150) + 1)) := ⟨_, rfl⟩
                  rw [← eU3]
                  have hHU3 : RI U3 := by rw [eU3]; exact RI_w hHT2
                  have hFU3 : FR md_mo_slot__p S U3 := by rw [eU3]; exact FR.wI hFT2 (mdf_i (r := (904, 905, 150, 151)) (List.mem_of_getElem? (i := 0) rfl) (inR_i (by omega) (by omega) (by omega) (by omega)))
                  have w23 : Xi U3 904 150 = ((Xi T2 904 150) + 1) := by rw [eU3]; exact Xi_same (by unfold rg; omega)
                  have e142 := eU3
                  refine y_iload rfl rfl ?_
                  refine y_istore_n rfl rfl rfl ?_
                  have G147 : Hid (GLCR S U3 end_ from_ v4) := by first | (have u := e134; exact rglc_ws G50.o (by omega) (by omega) e75 (by omega) c131 (by rw [c131, ← c94]; exact kyR_y k97 (by omega) (kyF_rn 55 0 (by omega))) g131 (by omega) e134 e142) | exact rglc_wk G50.o (by omega) (by omega) e75 (by omega) c94 (kyR_y k97 (by omega) (kyF_rn 55 0 (by omega))) (by omega) e142
                  refine y_goto rfl rfl ?_
                  exact Pl_weak (ih2 (by omega) U3 hHU3 hFU3 (v4) (by omega) (by omega) (by omega) (by first | exact G147 | exact G29 | exact rglc_0 h0)) (by omega) (And.intro rfl (And.intro rfl (And.intro rfl (True.intro))))
                · refine y_aload_n rfl rfl ?_
                  refine y_gfr rfl rfl rfl rfl rfl (hHT2.r 904 149 991 rfl) ?_
                  refine y_aload_n rfl rfl ?_
                  refine y_gfi rfl rfl rfl rfl rfl ?_
                  refine y_aload_n rfl rfl ?_
                  refine y_gfr rfl rfl rfl rfl rfl (hHT2.r 904 2 906 rfl) ?_
                  refine y_iload_n rfl rfl ?_
                  refine y_iload rfl rfl ?_
                  refine y_iload_n rfl rfl ?_
                  refine y_isub rfl ?_
                  refine y_callS rfl rfl (by decide) rfl (t_mo_wordOf__p hHT2 906 v3 (v4 - v3) (Or.inr rfl) ⟨by omega, by omega⟩ ⟨by omega, by omega⟩ (BYT_R hFT2 rfl hb6) (fun i a b => by rw [(hFT2.cx 906 rfl _).1]; exact L50.o i a (by omega)) _) ?_
                  rintro _ _ ⟨rfl, z24, rfl, f131, g131⟩
                  show Pl _ _ _ _ _ _ [jw z24, iv (Xi T2 904 150), .ref 991] _ _
                  have c131 : z24 = c32 (Xi S 906) (v3).toNat (v4 - v3).toNat := by have u := f131; rw [show Xi T2 906 = Xi S 906 from funext (fun j => (hFT2.cx 906 rfl j).1)] at u; exact u
                  clear f131
                  refine y_lastoreP (n := 3) rfl rfl (by unfold rg; omega) (fun w25 w26 => ?_)
                  obtain ⟨U4, eU4⟩ : ∃ T : sS, T = uJ T2 991 (((Xi T2 904 150)).toNat) (Int64.ofInt z24) := ⟨_, rfl⟩
                  rw [← eU4]
                  have hHU4 : RI U4 := by rw [eU4]; exact RI_J hHT2
                  have hFU4 : FR md_mo_slot__p S U4 := by rw [eU4]; exact FR.wJ hFT2 (mdf_i (r := (991, 992, 0, 100000)) (List.mem_of_getElem? (i := 1) rfl) (inR_i (by omega) (by omega) (by omega) (by omega)))
                  have e134 := eU4
                  refine y_aload_n rfl rfl ?_
                  refine y_dup rfl rfl ?_
                  refine y_gfi rfl rfl rfl rfl rfl ?_
                  have w27 : (Xi U4 904 150) = (Xi T2 904 150) := (show Xi U4 904 150 = Xi T2 904 150 from by rw [eU4]; rfl)
                  rw [w27]
                  refine y_iconst rfl ?_
                  refine y_iadd rfl ?_
                  refine y_pfi rfl rfl rfl rfl ?_
                  obtain ⟨U5, eU5⟩ : ∃ T : sS, T = uI U4 904 150 (Int32.ofInt ((Xi T2 904 150) + 1)) := ⟨_, rfl⟩
                  rw [← eU5]
                  have hHU5 : RI U5 := by rw [eU5]; exact RI_w hHU4
                  have hFU5 : FR md_mo_slot__p S U5 := by rw [eU5]; exact FR.wI hFU4 (mdf_i (r := (904, 905, 150, 151)) (List.mem_of_getElem? (i := 0) rfl) (inR_i (by omega) (by omega) (by omega) (by omega)))
                  have w28 : Xi U5 904 150 = ((Xi T2 904 150) + 1) := by rw [eU5]; exact Xi_same (by unfold rg; omega)
                  have e142 := eU5
                  refine y_iload rfl rfl ?_
                  refine y_istore_n rfl rfl rfl ?_
                  have G147 : Hid (GLCR S U5 end_ from_ v4) := by first | (have u := e134; exact rglc_ws G50.o (by omega) (by omega) e75 (by omega) c131 (by rw [c131, ← c94]; exact kyR_y k97 (by omega) (kyF_rn 55 0 (by omega))) g131 (by omega) e134 e142) | exact rglc_wk G50.o (by omega) (by omega) e75 (by omega) c94 (kyR_y k97 (by omega) (kyF_rn 55 0 (by omega))) (by omega) e142
                  refine y_goto rfl rfl ?_
                  exact Pl_weak (ih2 (by omega) U5 hHU5 hFU5 (v4) (by omega) (by omega) (by omega) (by first | exact G147 | exact G29 | exact rglc_0 h0)) (by omega) (And.intro rfl (And.intro rfl (And.intro rfl (True.intro))))
              · refine y_iconst rfl ?_
                refine y_ireturn rfl rfl ?_
                exact ⟨hHT2, hFT2, _, rfl, ⟨by omega, by omega⟩, (by first | (have u := K97; exact rglc_x G50.o (by omega) (by omega) (by omega) e75 (Or.inr (Or.inr ⟨by omega, c94, kyR_n k97 (by omega)⟩))) | (have u := K75; exact rglc_x (w := 0) G50.o (by omega) (by omega) (by omega) e75 (Or.inr (Or.inl (by omega)))) | (have u := l41; exact rglc_x (w := 0) (e := v3) G2.o (by omega) (by omega) (by omega) (we7_x rfl (Or.inr (by omega))) (Or.inl rfl)) | (have u := y12; exact rglc_y G2.o (by omega) (by omega) (by omega) (by omega)) | exact rglc_z G2.o (by omega) (by omega) | (exfalso; omega)), (by omega)⟩
          · refine y_aload_n rfl rfl ?_
            refine y_gfr rfl rfl rfl rfl rfl (hHT2.r 904 2 906 rfl) ?_
            refine y_iload rfl rfl ?_
            refine y_baloadP (n := 5000) rfl rfl rfl (by decide) (by unfold rg; omega) (fun w29 w30 => ?_)
            have w31 : -2147483648 ≤ (Xi T2 906 ((v4).toNat)) ∧ (Xi T2 906 ((v4).toNat)) ≤ 2147483647 := Xi_rgI
            have y62 : Xi T2 906 (v4).toNat = Xi S 906 (v4).toNat := (hFT2.cx 906 rfl _).1
            have z62 := hb6 (v4).toNat
            refine y_callS rfl rfl (by decide) rfl (t_mo_isLetter__p hHT2 (Xi T2 906 ((v4).toNat)) ⟨by omega, by omega⟩ _) ?_
            rintro _ _ ⟨rfl, z32, rfl, w32, q63⟩
            show Pl _ _ _ _ _ _ [iv z32] _ _
            have l63 : z32 = ltr (Xi S 906 (v4).toNat) := by rw [← y62]; exact q63
            clear q63
            refine y_if_eq rfl rfl (by unfold rg; omega) (fun w33 => ?_) (fun w34 => ?_)
            · refine y_iload rfl rfl ?_
              have K75 : True := trivial
              have e75 : v4 = we7 (Xi S 906) end_ v3 := we7_x w50 (by first | exact Or.inl (by omega) | exact Or.inr (by omega))
              have p75 : v3 < v4 := by by_cases q : v4 = v3; (have u := f50 q; first | omega | (rw [← q] at u; omega)); omega
              refine y_iload_n rfl rfl ?_
              refine y_isub rfl ?_
              refine y_bipush rfl rfl ?_
              refine y_icmp_gt rfl rfl (by unfold rg; omega) (by unfold rg; omega) (fun w35 => ?_) (fun w36 => ?_)
              · refine y_iconst rfl ?_
                refine y_ireturn rfl rfl ?_
                exact ⟨hHT2, hFT2, _, rfl, ⟨by omega, by omega⟩, (by first | (have u := K97; exact rglc_x G50.o (by omega) (by omega) (by omega) e75 (Or.inr (Or.inr ⟨by omega, c94, kyR_n k97 (by omega)⟩))) | (have u := K75; exact rglc_x (w := 0) G50.o (by omega) (by omega) (by omega) e75 (Or.inr (Or.inl (by omega)))) | (have u := l41; exact rglc_x (w := 0) (e := v3) G2.o (by omega) (by omega) (by omega) (we7_x rfl (Or.inr (by omega))) (Or.inl rfl)) | (have u := y12; exact rglc_y G2.o (by omega) (by omega) (by omega) (by omega)) | exact rglc_z G2.o (by omega) (by omega) | (exfalso; omega)), (by omega)⟩
              · refine y_aload_n rfl rfl ?_
                refine y_aload_n rfl rfl ?_
                refine y_gfr rfl rfl rfl rfl rfl (hHT2.r 904 2 906 rfl) ?_
                refine y_iload_n rfl rfl ?_
                refine y_iload rfl rfl ?_
                refine y_iload_n rfl rfl ?_
                refine y_isub rfl ?_
                refine y_callS rfl rfl (by decide) rfl (t_mo_wordOf__p hHT2 906 v3 (v4 - v3) (Or.inr rfl) ⟨by omega, by omega⟩ ⟨by omega, by omega⟩ (BYT_R hFT2 rfl hb6) (fun i a b => by rw [(hFT2.cx 906 rfl _).1]; exact L50.o i a (by omega)) _) ?_
                rintro _ _ ⟨rfl, z37, rfl, f94, g94⟩
                show Pl _ _ _ _ _ _ [jw z37, .ref 904] _ _
                have c94 : z37 = c32 (Xi S 906) (v3).toNat (v4 - v3).toNat := by have u := f94; rw [show Xi T2 906 = Xi S 906 from funext (fun j => (hFT2.cx 906 rfl j).1)] at u; exact u
                clear f94
                refine y_callV rfl rfl rfl (t_mo_keyOf__p hHT2 z37 (g94) _) ?_
                rintro _ _ ⟨rfl, z38, rfl, w38, f97⟩
                show Pl _ _ _ _ _ _ [iv z38] _ _
                have K97 : True := trivial
                have k97 := f97
                rw [show Xj T2 911 = Xj S 911 from funext (fun j => (hFT2.cx 911 rfl j).2)] at k97
                clear f97
                refine y_iconst rfl ?_
                refine y_icmp_eq rfl rfl (by unfold rg; omega) (by unfold rg; omega) (fun w39 => ?_) (fun w40 => ?_)
                · refine y_aload_n rfl rfl ?_
                  refine y_gfi rfl rfl rfl rfl rfl ?_
                  refine y_iconst rfl ?_
                  refine y_icmp_ge rfl rfl (by unfold rg; omega) (by unfold rg; omega) (fun w41 => ?_) (fun w42 => ?_)
                  · refine y_aload_n rfl rfl ?_
                    refine y_dup rfl rfl ?_
                    refine y_gfi rfl rfl rfl rfl rfl ?_
                    refine y_iconst rfl ?_
                    refine y_iadd rfl ?_
                    refine y_pfi rfl rfl rfl rfl ?_
                    obtain ⟨U6, eU6⟩ : ∃ T : sS, T = uI T2 904 150 (Int32.ofInt ((Xi T2 904 150) + 1)) := ⟨_, rfl⟩
                    rw [← eU6]
                    have hHU6 : RI U6 := by rw [eU6]; exact RI_w hHT2
                    have hFU6 : FR md_mo_slot__p S U6 := by rw [eU6]; exact FR.wI hFT2 (mdf_i (r := (904, 905, 150, 151)) (List.mem_of_getElem? (i := 0) rfl) (inR_i (by omega) (by omega) (by omega) (by omega)))
                    have w43 : Xi U6 904 150 = ((Xi T2 904 150) + 1) := by rw [eU6]; exact Xi_same (by unfold rg; omega)
                    have e142 := eU6
                    refine y_iload rfl rfl ?_
                    refine y_istore_n rfl rfl rfl ?_
                    have G147 : Hid (GLCR S U6 end_ from_ v4) := by first | (have u := e134; exact rglc_ws G50.o (by omega) (by omega) e75 (by omega) c131 (by rw [c131, ← c94]; exact kyR_y k97 (by omega) (kyF_rn 55 0 (by omega))) g131 (by omega) e134 e142) | exact rglc_wk G50.o (by omega) (by omega) e75 (by omega) c94 (kyR_y k97 (by omega) (kyF_rn 55 0 (by omega))) (by omega) e142
                    refine y_goto rfl rfl ?_
                    exact Pl_weak (ih2 (by omega) U6 hHU6 hFU6 (v4) (by omega) (by omega) (by omega) (by first | exact G147 | exact G29 | exact rglc_0 h0)) (by omega) (And.intro rfl (And.intro rfl (And.intro rfl (True.intro))))
                  · refine y_aload_n rfl rfl ?_
                    refine y_gfr rfl rfl rfl rfl rfl (hHT2.r 904 149 991 rfl) ?_
                    refine y_aload_n rfl rfl ?_
                    refine y_gfi rfl rfl rfl rfl rfl ?_
                    refine y_aload_n rfl rfl ?_
                    refine y_gfr rfl rfl rfl rfl rfl (hHT2.r 904 2 906 rfl) ?_
                    refine y_iload_n rfl rfl ?_
                    refine y_iload rfl rfl ?_
                    refine y_iload_n rfl rfl ?_
                    refine y_isub rfl ?_
                    refine y_callS rfl rfl (by decide) rfl (t_mo_wordOf__p hHT2 906 v3 (v4 - v3) (Or.inr rfl) ⟨by omega, by omega⟩ ⟨by omega, by omega⟩ (BYT_R hFT2 rfl hb6) (fun i a b => by rw [(hFT2.cx 906 rfl _).1]; exact L50.o i a (by omega)) _) ?_
                    rintro _ _ ⟨rfl, z44, rfl, f131, g131⟩
                    show Pl _ _ _ _ _ _ [jw z44, iv (Xi T2 904 150), .ref 991] _ _
                    have c131 : z44 = c32 (Xi S 906) (v3).toNat (v4 - v3).toNat := by have u := f131; rw [show Xi T2 906 = Xi S 906 from funext (fun j => (hFT2.cx 906 rfl j).1)] at u; exact u
                    clear f131
                    refine y_lastoreP (n := 3) rfl rfl (by unfold rg; omega) (fun w45 w46 => ?_)
                    obtain ⟨U7, eU7⟩ : ∃ T : sS, T = uJ T2 991 (((Xi T2 904 150)).toNat) (Int64.ofInt z44) := ⟨_, rfl⟩
                    rw [← eU7]
                    have hHU7 : RI U7 := by rw [eU7]; exact RI_J hHT2
                    have hFU7 : FR md_mo_slot__p S U7 := by rw [eU7]; exact FR.wJ hFT2 (mdf_i (r := (991, 992, 0, 100000)) (List.mem_of_getElem? (i := 1) rfl) (inR_i (by omega) (by omega) (by omega) (by omega)))
                    have e134 := eU7
                    refine y_aload_n rfl rfl ?_
                    refine y_dup rfl rfl ?_
                    refine y_gfi rfl rfl rfl rfl rfl ?_
                    have w47 : (Xi U7 904 150) = (Xi T2 904 150) := (show Xi U7 904 150 = Xi T2 904 150 from by rw [eU7]; rfl)
                    rw [w47]
                    refine y_iconst rfl ?_
                    refine y_iadd rfl ?_
                    refine y_pfi rfl rfl rfl rfl ?_
                    obtain ⟨U8, eU8⟩ : ∃ T : sS, T = uI U7 904 150 (Int32.ofInt ((Xi T2 904 150) + 1)) := ⟨_, rfl⟩
                    rw [← eU8]
                    have hHU8 : RI U8 := by rw [eU8]; exact RI_w hHU7
                    have hFU8 : FR md_mo_slot__p S U8 := by rw [eU8]; exact FR.wI hFU7 (mdf_i (r := (904, 905, 150, 151)) (List.mem_of_getElem? (i := 0) rfl) (inR_i (by omega) (by omega) (by omega) (by omega)))
                    have w48 : Xi U8 904 150 = ((Xi T2 904 150) + 1) := by rw [eU8]; exact Xi_same (by unfold rg; omega)
                    have e142 := eU8
                    refine y_iload rfl rfl ?_
                    refine y_istore_n rfl rfl rfl ?_
                    have G147 : Hid (GLCR S U8 end_ from_ v4) := by first | (have u := e134; exact rglc_ws G50.o (by omega) (by omega) e75 (by omega) c131 (by rw [c131, ← c94]; exact kyR_y k97 (by omega) (kyF_rn 55 0 (by omega))) g131 (by omega) e134 e142) | exact rglc_wk G50.o (by omega) (by omega) e75 (by omega) c94 (kyR_y k97 (by omega) (kyF_rn 55 0 (by omega))) (by omega) e142
                    refine y_goto rfl rfl ?_
                    exact Pl_weak (ih2 (by omega) U8 hHU8 hFU8 (v4) (by omega) (by omega) (by omega) (by first | exact G147 | exact G29 | exact rglc_0 h0)) (by omega) (And.intro rfl (And.intro rfl (And.intro rfl (True.intro))))
                · refine y_iconst rfl ?_
                  refine y_ireturn rfl rfl ?_
                  exact ⟨hHT2, hFT2, _, rfl, ⟨by omega, by omega⟩, (by first | (have u := K97; exact rglc_x G50.o (by omega) (by omega) (by omega) e75 (Or.inr (Or.inr ⟨by omega, c94, kyR_n k97 (by omega)⟩))) | (have u := K75; exact rglc_x (w := 0) G50.o (by omega) (by omega) (by omega) e75 (Or.inr (Or.inl (by omega)))) | (have u := l41; exact rglc_x (w := 0) (e := v3) G2.o (by omega) (by omega) (by omega) (we7_x rfl (Or.inr (by omega))) (Or.inl rfl)) | (have u := y12; exact rglc_y G2.o (by omega) (by omega) (by omega) (by omega)) | exact rglc_z G2.o (by omega) (by omega) | (exfalso; omega)), (by omega)⟩
            · refine y_iinc rfl rfl rfl rfl ?_
              have w69 : we7 (Xi S 906) end_ v3 = we7 (Xi S 906) end_ (v4 + 1) := we7_t w50 (by omega) (by omega)
              have L69 : Hid (∀ j : Nat, v3 ≤ (j : Int) → (j : Int) < v4 + 1 → ltr (Xi S 906 j) = 1) := fun j a b => by by_cases q : (j : Int) < v4; (exact L50.o j a q); (rw [show j = (v4).toNat by omega]; omega)
              refine y_goto rfl rfl ?_
              exact Pl_weak (ih50 (by omega) T2 hHT2 hFT2 (v3) ((v4 + 1)) (by omega) (by omega) (by omega) (by omega) (by omega) (by omega) (by first | omega | (intro _; omega)) (by first | exact G50 | exact G2) (by first | exact w69 | rfl) (by first | exact L69 | exact fun j a b => absurd a (by omega))) (by omega) (And.intro rfl (And.intro rfl (And.intro rfl (And.intro rfl (True.intro)))))
      refine ys_iload_n rfl rfl ?_
      refine y_iload_n rfl rfl ?_
      refine y_icmp_ge rfl rfl (by unfold rg; omega) (by unfold rg; omega) (fun w49 => ?_) (fun w50 => ?_)
      · refine y_iload_n rfl rfl ?_
        refine y_iload_n rfl rfl ?_
        refine y_icmp_ge rfl rfl (by unfold rg; omega) (by unfold rg; omega) (fun w51 => ?_) (fun w52 => ?_)
        · refine y_iconst rfl ?_
          refine y_ireturn rfl rfl ?_
          exact ⟨hHT1, hFT1, _, rfl, ⟨by omega, by omega⟩, (by first | (have u := K97; exact rglc_x G50.o (by omega) (by omega) (by omega) e75 (Or.inr (Or.inr ⟨by omega, c94, kyR_n k97 (by omega)⟩))) | (have u := K75; exact rglc_x (w := 0) G50.o (by omega) (by omega) (by omega) e75 (Or.inr (Or.inl (by omega)))) | (have u := l41; exact rglc_x (w := 0) (e := v3) G2.o (by omega) (by omega) (by omega) (we7_x rfl (Or.inr (by omega))) (Or.inl rfl)) | (have u := y12; exact rglc_y G2.o (by omega) (by omega) (by omega) (by omega)) | exact rglc_z G2.o (by omega) (by omega) | (exfalso; omega)), (by omega)⟩
        · refine y_aload_n rfl rfl ?_
          refine y_gfi rfl rfl rfl rfl rfl ?_
          refine y_if_le rfl rfl (by unfold rg; omega) (fun w53 => ?_) (fun w54 => ?_)
          · refine y_iconst rfl ?_
            refine y_ireturn rfl rfl ?_
            exact ⟨hHT1, hFT1, _, rfl, ⟨by omega, by omega⟩, (by first | (have u := K97; exact rglc_x G50.o (by omega) (by omega) (by omega) e75 (Or.inr (Or.inr ⟨by omega, c94, kyR_n k97 (by omega)⟩))) | (have u := K75; exact rglc_x (w := 0) G50.o (by omega) (by omega) (by omega) e75 (Or.inr (Or.inl (by omega)))) | (have u := l41; exact rglc_x (w := 0) (e := v3) G2.o (by omega) (by omega) (by omega) (we7_x rfl (Or.inr (by omega))) (Or.inl rfl)) | (have u := y12; exact rglc_y G2.o (by omega) (by omega) (by omega) (by omega)) | exact rglc_z G2.o (by omega) (by omega) | (exfalso; omega)), (by omega)⟩
          · refine y_iload_n rfl rfl ?_
            refine y_iconst rfl ?_
            refine y_iadd rfl ?_
            refine y_goto rfl rfl ?_
            refine y_ireturn rfl rfl ?_
            exact ⟨hHT1, hFT1, _, rfl, ⟨by omega, by omega⟩, (by first | (have u := K97; exact rglc_x G50.o (by omega) (by omega) (by omega) e75 (Or.inr (Or.inr ⟨by omega, c94, kyR_n k97 (by omega)⟩))) | (have u := K75; exact rglc_x (w := 0) G50.o (by omega) (by omega) (by omega) e75 (Or.inr (Or.inl (by omega)))) | (have u := l41; exact rglc_x (w := 0) (e := v3) G2.o (by omega) (by omega) (by omega) (we7_x rfl (Or.inr (by omega))) (Or.inl rfl)) | (have u := y12; exact rglc_y G2.o (by omega) (by omega) (by omega) (by omega)) | exact rglc_z G2.o (by omega) (by omega) | (exfalso; omega)), (by omega)⟩
      · refine y_aload_n rfl rfl ?_
        refine y_gfr rfl rfl rfl rfl rfl (hHT1.r 904 2 906 rfl) ?_
        refine y_iload_n rfl rfl ?_
        refine y_baloadP (n := 5000) rfl rfl rfl (by decide) (by unfold rg; omega) (fun w55 w56 => ?_)
        have w57 : -2147483648 ≤ (Xi T1 906 ((v3).toNat)) ∧ (Xi T1 906 ((v3).toNat)) ≤ 2147483647 := Xi_rgI
        have y12 : Xi T1 906 (v3).toNat = Xi S 906 (v3).toNat := (hFT1.cx 906 rfl _).1
        have z12 := hb6 (v3).toNat
        refine y_bipush rfl rfl ?_
        refine y_icmp_eq rfl rfl (by unfold rg; omega) (by unfold rg; omega) (fun w58 => ?_) (fun w59 => ?_)
        · refine y_iload_n rfl rfl ?_
          refine y_iload_n rfl rfl ?_
          refine y_icmp_ge rfl rfl (by unfold rg; omega) (by unfold rg; omega) (fun w60 => ?_) (fun w61 => ?_)
          · refine y_iconst rfl ?_
            refine y_ireturn rfl rfl ?_
            exact ⟨hHT1, hFT1, _, rfl, ⟨by omega, by omega⟩, (by first | (have u := K97; exact rglc_x G50.o (by omega) (by omega) (by omega) e75 (Or.inr (Or.inr ⟨by omega, c94, kyR_n k97 (by omega)⟩))) | (have u := K75; exact rglc_x (w := 0) G50.o (by omega) (by omega) (by omega) e75 (Or.inr (Or.inl (by omega)))) | (have u := l41; exact rglc_x (w := 0) (e := v3) G2.o (by omega) (by omega) (by omega) (we7_x rfl (Or.inr (by omega))) (Or.inl rfl)) | (have u := y12; exact rglc_y G2.o (by omega) (by omega) (by omega) (by omega)) | exact rglc_z G2.o (by omega) (by omega) | (exfalso; omega)), (by omega)⟩
          · refine y_aload_n rfl rfl ?_
            refine y_gfi rfl rfl rfl rfl rfl ?_
            refine y_if_le rfl rfl (by unfold rg; omega) (fun w62 => ?_) (fun w63 => ?_)
            · refine y_iconst rfl ?_
              refine y_ireturn rfl rfl ?_
              exact ⟨hHT1, hFT1, _, rfl, ⟨by omega, by omega⟩, (by first | (have u := K97; exact rglc_x G50.o (by omega) (by omega) (by omega) e75 (Or.inr (Or.inr ⟨by omega, c94, kyR_n k97 (by omega)⟩))) | (have u := K75; exact rglc_x (w := 0) G50.o (by omega) (by omega) (by omega) e75 (Or.inr (Or.inl (by omega)))) | (have u := l41; exact rglc_x (w := 0) (e := v3) G2.o (by omega) (by omega) (by omega) (we7_x rfl (Or.inr (by omega))) (Or.inl rfl)) | (have u := y12; exact rglc_y G2.o (by omega) (by omega) (by omega) (by omega)) | exact rglc_z G2.o (by omega) (by omega) | (exfalso; omega)), (by omega)⟩
            · refine y_iload_n rfl rfl ?_
              refine y_iconst rfl ?_
              refine y_iadd rfl ?_
              refine y_goto rfl rfl ?_
              refine y_ireturn rfl rfl ?_
              exact ⟨hHT1, hFT1, _, rfl, ⟨by omega, by omega⟩, (by first | (have u := K97; exact rglc_x G50.o (by omega) (by omega) (by omega) e75 (Or.inr (Or.inr ⟨by omega, c94, kyR_n k97 (by omega)⟩))) | (have u := K75; exact rglc_x (w := 0) G50.o (by omega) (by omega) (by omega) e75 (Or.inr (Or.inl (by omega)))) | (have u := l41; exact rglc_x (w := 0) (e := v3) G2.o (by omega) (by omega) (by omega) (we7_x rfl (Or.inr (by omega))) (Or.inl rfl)) | (have u := y12; exact rglc_y G2.o (by omega) (by omega) (by omega) (by omega)) | exact rglc_z G2.o (by omega) (by omega) | (exfalso; omega)), (by omega)⟩
        · refine y_aload_n rfl rfl ?_
          refine y_gfr rfl rfl rfl rfl rfl (hHT1.r 904 2 906 rfl) ?_
          refine y_iload_n rfl rfl ?_
          refine y_baloadP (n := 5000) rfl rfl rfl (by decide) (by unfold rg; omega) (fun w64 w65 => ?_)
          have y23 : Xi T1 906 (v3).toNat = Xi S 906 (v3).toNat := (hFT1.cx 906 rfl _).1
          refine y_bipush rfl rfl ?_
          refine y_icmp_ne rfl rfl (by unfold rg; omega) (by unfold rg; omega) (fun w66 => ?_) (fun w67 => ?_)
          · refine y_aload_n rfl rfl ?_
            refine y_gfr rfl rfl rfl rfl rfl (hHT1.r 904 2 906 rfl) ?_
            refine y_iload_n rfl rfl ?_
            refine y_baloadP (n := 5000) rfl rfl rfl (by decide) (by unfold rg; omega) (fun w68 w69 => ?_)
            have y40 : Xi T1 906 (v3).toNat = Xi S 906 (v3).toNat := (hFT1.cx 906 rfl _).1
            have z40 := hb6 (v3).toNat
            refine y_callS rfl rfl (by decide) rfl (t_mo_isLetter__p hHT1 (Xi T1 906 ((v3).toNat)) ⟨by omega, by omega⟩ _) ?_
            rintro _ _ ⟨rfl, z70, rfl, w70, q41⟩
            show Pl _ _ _ _ _ _ [iv z70] _ _
            have l41 : z70 = ltr (Xi S 906 (v3).toNat) := by rw [← y40]; exact q41
            clear q41
            refine y_if_eq rfl rfl (by unfold rg; omega) (fun w71 => ?_) (fun w72 => ?_)
            · refine y_iconst rfl ?_
              refine y_ireturn rfl rfl ?_
              exact ⟨hHT1, hFT1, _, rfl, ⟨by omega, by omega⟩, (by first | (have u := K97; exact rglc_x G50.o (by omega) (by omega) (by omega) e75 (Or.inr (Or.inr ⟨by omega, c94, kyR_n k97 (by omega)⟩))) | (have u := K75; exact rglc_x (w := 0) G50.o (by omega) (by omega) (by omega) e75 (Or.inr (Or.inl (by omega)))) | (have u := l41; exact rglc_x (w := 0) (e := v3) G2.o (by omega) (by omega) (by omega) (we7_x rfl (Or.inr (by omega))) (Or.inl rfl)) | (have u := y12; exact rglc_y G2.o (by omega) (by omega) (by omega) (by omega)) | exact rglc_z G2.o (by omega) (by omega) | (exfalso; omega)), (by omega)⟩
            · refine y_iload_n rfl rfl ?_
              refine y_istore rfl rfl rfl ?_
              exact Pl_weak (C50 n2 (by omega) T1 hHT1 hFT1 (v3) (v3) (by omega) (by omega) (by omega) (by omega) (by omega) (by omega) (by first | omega | (intro _; omega)) (by first | exact G50 | exact G2) (by first | exact w69 | rfl) (by first | exact L69 | exact fun j a b => absurd a (by omega))) (by omega) (And.intro rfl (And.intro rfl (And.intro rfl (And.intro rfl (True.intro)))))
          · refine y_iinc rfl rfl rfl rfl ?_
            have G29 : Hid (GLCR S T1 end_ from_ (v3 + 1)) := rglc_b G2.o (by omega) (by omega)
            refine y_goto rfl rfl ?_
            exact Pl_weak (ih2 (by omega) T1 hHT1 hFT1 ((v3 + 1)) (by omega) (by omega) (by omega) (by first | exact G147 | exact G29 | exact rglc_0 h0)) (by omega) (And.intro rfl (And.intro rfl (And.intro rfl (True.intro))))
  refine y_iload_n rfl rfl ?_
  refine y_istore_n rfl rfl rfl ?_
  exact Pl_weak (C2 fu (by omega) S hH hF (from_) (by omega) (by omega) (by omega) (by first | exact G147 | exact G29 | exact rglc_0 h0)) (by omega) (And.intro rfl (And.intro rfl (And.intro rfl (True.intro))))
def md_mo_isCommand__p : List rec := [(904, 905, 150, 151), (904, 905, 151, 152), (991, 992, 0, 100000), (992, 993, 0, 100000)]
abbrev Q_mo_isCommand__p (S : sS) (from_ : Int) (n : Int) : pst := fun r S1 => RI S1 ∧ FR md_mo_isCommand__p S S1 ∧ (∃ z : Int, r = some (iv z) ∧ (0 ≤ z ∧ z ≤ 1) ∧ (TXOR S S1 from_ (from_ + n) z))
set_option maxRecDepth 100000 in
theorem t_mo_isCommand__p {S : sS} (hH : RI S) (from_ : Int) (n : Int) (hfrom_ : 0 ≤ from_ ∧ from_ ≤ 5000) (hn : 0 ≤ n ∧ n ≤ 5000) (hb6 : BYT S 906) (hn5 : from_ + n ≤ 5000) (d : Nat) : Mp lay0 (d + 5) m_mo_isCommand [.ref 904, iv from_, iv n] S (Q_mo_isCommand__p S from_ n) := by
  refine Mp_R rfl rfl (fun fu => ?_)
  have hF : FR md_mo_isCommand__p S S := FR.rf
  have w1 : -2147483648 ≤ Xi S 904 150 ∧ Xi S 904 150 ≤ 2147483647 := Xi_rgI
  have w2 : -2147483648 ≤ Xi S 904 151 ∧ Xi S 904 151 ≤ 2147483647 := Xi_rgI
  have C23 : ∀ (n23 : Nat) (_ : n23 ≤ fu) (T1 : sS) (_ : RI T1) (_ : FR md_mo_isCommand__p S T1) (v3 : Int) (v4 : Int) (v5 : Int) (v6 : Int), (-1 ≤ v3 ∧ v3 ≤ 5000) → (0 ≤ v4 ∧ v4 ≤ 5000) → (0 ≤ v5 ∧ v5 ≤ 1) → (0 ≤ v6 ∧ v6 ≤ 1) → (v4 = from_ + n) → (v5 = 1 → from_ ≤ v3 ∧ v3 ≤ v4) → (0 ≤ v5 ∧ v5 ≤ 1) → (0 ≤ v6 ∧ v6 ≤ 1) → (v5 = 1 → 0 ≤ Xi T1 904 151 ∧ Xi T1 904 151 ≤ 8) → (Hid (((v5 : Int) ≠ 0 → TLCR S T1 v4 from_ v3 v6) ∧ ((v5 : Int) = 0 → bdR S v4 from_))) → Pl n23 lay0 (d + 4) m_mo_isCommand 23 [(0, .ref 904), (3, iv v3), (4, iv v4), (5, iv v5), (6, iv v6)] [] T1 (Q_mo_isCommand__p S from_ n) := by
    intro n23
    induction n23 with
    | zero => intros; exact Pl_0
    | succ n23 ih23 =>
      intro hm23 T1 hHT1 hFT1 v3 v4 v5 v6 w3 w4 w5 w6 w7 w8 w9 w10 w11 I23
      have w12 : -2147483648 ≤ Xi T1 904 150 ∧ Xi T1 904 150 ≤ 2147483647 := Xi_rgI
      have w13 : -2147483648 ≤ Xi T1 904 151 ∧ Xi T1 904 151 ≤ 2147483647 := Xi_rgI
      have C89 : ∀ (n89 : Nat) (_ : n89 ≤ n23) (T2 : sS) (_ : RI T2) (_ : FR md_mo_isCommand__p S T2) (v3 : Int) (v4 : Int) (v7 : Int), (-1 ≤ v3 ∧ v3 ≤ 5000) → (0 ≤ v4 ∧ v4 ≤ 5000) → (0 ≤ v7 ∧ v7 ≤ 5000) → (v4 = from_ + n) → (from_ ≤ v3 ∧ v3 < v4) → (v3 ≤ v7 ∧ v7 ≤ v4) → (v6 = 1) → (0 ≤ Xi T2 904 151 ∧ Xi T2 904 151 < 8) → (ltr (Xi S 906 (v3).toNat) = 1) → (Hid (TLCR S T2 v4 from_ v3 v6)) → (we7 (Xi S 906) v4 v3 = we7 (Xi S 906) v4 v7) → (Hid (∀ j : Nat, v3 ≤ (j : Int) → (j : Int) < v7 → ltr (Xi S 906 j) = 1)) → Pl n89 lay0 (d + 4) m_mo_isCommand 89 [(0, .ref 904), (3, iv v3), (4, iv v4), (7, iv v7)] [] T2 (Q_mo_isCommand__p S from_ n) := by
        intro n89
        induction n89 with
        | zero => intros; exact Pl_0
        | succ n89 ih89 =>
          intro hm89 T2 hHT2 hFT2 v3 v4 v7 w14 w15 w16 w17 w18 w19 w20 w21 f89 I89 w89 L89
          have w22 : -2147483648 ≤ Xi T2 904 150 ∧ Xi T2 904 150 ≤ 2147483647 := Xi_rgI
          have w23 : -2147483648 ≤ Xi T2 904 151 ∧ Xi T2 904 151 ≤ 2147483647 := Xi_rgI
          refine ys_iload rfl rfl ?_
          refine y_iload rfl rfl ?_
          refine y_icmp_ge rfl rfl (by unfold rg; omega) (by unfold rg; omega) (fun w24 => ?_) (fun w25 => ?_)
          · refine y_iload rfl rfl ?_
            have e115 : v7 = we7 (Xi S 906) v4 v3 := we7_x w89 (by first | exact Or.inl (by omega) | exact Or.inr (by omega))
            have p115 : v3 < v7 := by by_cases q : v7 = v3; (first | omega | (rw [← q] at f89; omega)); omega
            refine y_iload_n rfl rfl ?_
            refine y_isub rfl ?_
            refine y_bipush rfl rfl ?_
            refine y_icmp_gt rfl rfl (by unfold rg; omega) (by unfold rg; omega) (fun w26 => ?_) (fun w27 => ?_)
            · refine y_iconst rfl ?_
              refine y_istore rfl rfl rfl ?_
              refine y_aload_n rfl rfl ?_
              refine y_gfr rfl rfl rfl rfl rfl (hHT2.r 904 152 992 rfl) ?_
              refine y_aload_n rfl rfl ?_
              refine y_gfi rfl rfl rfl rfl rfl ?_
              refine y_iload rfl rfl ?_
              refine y_if_eq rfl rfl (by unfold rg; omega) (fun w28 => ?_) (fun w29 => absurd w29 (by omega))
              · refine y_lconst (z := 0) rfl rfl ?_
                refine y_lastoreP (n := 8) rfl rfl (by unfold rg; omega) (fun w30 w31 => ?_)
                obtain ⟨U3, eU3⟩ : ∃ T : sS, T = uJ T2 992 (((Xi T2 904 151)).toNat) (Int64.ofInt 0) := ⟨_, rfl⟩
                rw [← eU3]
                have hHU3 : RI U3 := by rw [eU3]; exact RI_J hHT2
                have hFU3 : FR md_mo_isCommand__p S U3 := by rw [eU3]; exact FR.wJ hFT2 (mdf_i (r := (992, 993, 0, 100000)) (List.mem_of_getElem? (i := 3) rfl) (inR_i (by omega) (by omega) (by omega) (by omega)))
                have e160 := eU3
                refine y_aload_n rfl rfl ?_
                refine y_dup rfl rfl ?_
                refine y_gfi rfl rfl rfl rfl rfl ?_
                have w32 : (Xi U3 904 151) = (Xi T2 904 151) := (show Xi U3 904 151 = Xi T2 904 151 from by rw [eU3]; rfl)
                rw [w32]
                refine y_iconst rfl ?_
                refine y_iadd rfl ?_
                refine y_pfi rfl rfl rfl rfl ?_
                obtain ⟨U4, eU4⟩ : ∃ T : sS, T = uI U3 904 151 (Int32.ofInt ((Xi T2 904 151) + 1)) := ⟨_, rfl⟩
                rw [← eU4]
                have hHU4 : RI U4 := by rw [eU4]; exact RI_w hHU3
                have hFU4 : FR md_mo_isCommand__p S U4 := by rw [eU4]; exact FR.wI hFU3 (mdf_i (r := (904, 905, 151, 152)) (List.mem_of_getElem? (i := 1) rfl) (inR_i (by omega) (by omega) (by omega) (by omega)))
                have w33 : Xi U4 904 151 = ((Xi T2 904 151) + 1) := by rw [eU4]; exact Xi_same (by unfold rg; omega)
                have e168 := eU4
                refine y_iload rfl rfl ?_
                refine y_istore_n rfl rfl rfl ?_
                refine y_iconst rfl ?_
                refine y_istore rfl rfl rfl ?_
                have I175 : Hid (((0 : Int) ≠ 0 → TLCR S U4 v4 from_ v7 0) ∧ ((0 : Int) = 0 → bdR S v4 from_)) := by first | (have u := K153; exact ⟨fun _ => tcr_w (I89.o) (by omega) (by omega) (by omega) f89 rfl (by omega) e115 (by omega) c153 g153 e160 e168, fun q => absurd q (by omega)⟩) | exact ⟨fun q => absurd q (by omega), fun _ => tcr_l (n := Xi T2 904 151) (I89.o) (by omega) (by omega) (by omega) f89 rfl (by omega) e115 (by omega)⟩
                refine y_goto rfl rfl ?_
                have w34 : Xi U4 904 150 = Xi T2 904 150 := (show Xi U4 904 150 = Xi U3 904 150 from by rw [eU4]; exact Xi_ne (by omega)).trans ((show Xi U3 904 150 = Xi T2 904 150 from by rw [eU3]; rfl))
                exact Pl_weak (ih23 (by omega) U4 hHU4 hFU4 (v7) (v4) (0) (0) (by omega) (by omega) (by omega) (by omega) (by omega) (by omega) (by omega) (by omega) (by omega) (by first | exact I175 | exact I267 | exact I49 | exact I69 | exact ⟨fun _ => tcr_0 Z14.1 Z14.2, fun q => absurd q (by omega)⟩)) (by omega) (And.intro rfl (And.intro rfl (And.intro rfl (And.intro rfl (And.intro rfl (True.intro))))))
            · refine y_iconst rfl ?_
              refine y_goto rfl rfl ?_
              refine y_istore rfl rfl rfl ?_
              refine y_aload_n rfl rfl ?_
              refine y_gfr rfl rfl rfl rfl rfl (hHT2.r 904 152 992 rfl) ?_
              refine y_aload_n rfl rfl ?_
              refine y_gfi rfl rfl rfl rfl rfl ?_
              refine y_iload rfl rfl ?_
              refine y_if_eq rfl rfl (by unfold rg; omega) (fun w35 => absurd w35 (by omega)) (fun w36 => ?_)
              · refine y_aload_n rfl rfl ?_
                refine y_gfr rfl rfl rfl rfl rfl (hHT2.r 904 2 906 rfl) ?_
                refine y_iload_n rfl rfl ?_
                refine y_iload rfl rfl ?_
                refine y_iload_n rfl rfl ?_
                refine y_isub rfl ?_
                refine y_callS rfl rfl (by decide) rfl (t_mo_wordOf__p hHT2 906 v3 (v7 - v3) (Or.inr rfl) ⟨by omega, by omega⟩ ⟨by omega, by omega⟩ (BYT_R hFT2 rfl hb6) (fun i a b => by rw [(hFT2.cx 906 rfl _).1]; exact L89.o i a (by omega)) _) ?_
                rintro _ _ ⟨rfl, z37, rfl, f153, g153⟩
                show Pl _ _ _ _ _ _ [jw z37, iv (Xi T2 904 151), .ref 992] _ _
                have K153 : True := trivial
                have c153 : z37 = c32 (Xi S 906) (v3).toNat (v7 - v3).toNat := by have u := f153; rw [(show Xi T2 906 = Xi S 906 from funext (fun j => (hFT2.cx 906 rfl j).1))] at u; exact u
                clear f153
                refine y_goto rfl rfl ?_
                refine y_lastoreP (n := 8) rfl rfl (by unfold rg; omega) (fun w38 w39 => ?_)
                obtain ⟨U5, eU5⟩ : ∃ T : sS, T = uJ T2 992 (((Xi T2 904 151)).toNat) (Int64.ofInt z37) := ⟨_, rfl⟩
                rw [← eU5]
                have hHU5 : RI U5 := by rw [eU5]; exact RI_J hHT2
                have hFU5 : FR md_mo_isCommand__p S U5 := by rw [eU5]; exact FR.wJ hFT2 (mdf_i (r := (992, 993, 0, 100000)) (List.mem_of_getElem? (i := 3) rfl) (inR_i (by omega) (by omega) (by omega) (by omega)))
                have e160 := eU5
                refine y_aload_n rfl rfl ?_
                refine y_dup rfl rfl ?_
                refine y_gfi rfl rfl rfl rfl rfl ?_
                have w40 : (Xi U5 904 151) = (Xi T2 904 151) := (show Xi U5 904 151 = Xi T2 904 151 from by rw [eU5]; rfl)
                rw [w40]
                refine y_iconst rfl ?_
                refine y_iadd rfl ?_
                refine y_pfi rfl rfl rfl rfl ?_
                obtain ⟨U6, eU6⟩ : ∃ T : sS, T = uI U5 904 151 (Int32.ofInt ((Xi T2 904 151) + 1)) := ⟨_, rfl⟩
                rw [← eU6]
                have hHU6 : RI U6 := by rw [eU6]; exact RI_w hHU5
                have hFU6 : FR md_mo_isCommand__p S U6 := by rw [eU6]; exact FR.wI hFU5 (mdf_i (r := (904, 905, 151, 152)) (List.mem_of_getElem? (i := 1) rfl) (inR_i (by omega) (by omega) (by omega) (by omega)))
                have w41 : Xi U6 904 151 = ((Xi T2 904 151) + 1) := by rw [eU6]; exact Xi_same (by unfold rg; omega)
                have e168 := eU6
                refine y_iload rfl rfl ?_
                refine y_istore_n rfl rfl rfl ?_
                refine y_iconst rfl ?_
                refine y_istore rfl rfl rfl ?_
                have I175 : Hid (((1 : Int) ≠ 0 → TLCR S U6 v4 from_ v7 0) ∧ ((1 : Int) = 0 → bdR S v4 from_)) := by first | (have u := K153; exact ⟨fun _ => tcr_w (I89.o) (by omega) (by omega) (by omega) f89 rfl (by omega) e115 (by omega) c153 g153 e160 e168, fun q => absurd q (by omega)⟩) | exact ⟨fun q => absurd q (by omega), fun _ => tcr_l (n := Xi T2 904 151) (I89.o) (by omega) (by omega) (by omega) f89 rfl (by omega) e115 (by omega)⟩
                refine y_goto rfl rfl ?_
                have w42 : Xi U6 904 150 = Xi T2 904 150 := (show Xi U6 904 150 = Xi U5 904 150 from by rw [eU6]; exact Xi_ne (by omega)).trans ((show Xi U5 904 150 = Xi T2 904 150 from by rw [eU5]; rfl))
                exact Pl_weak (ih23 (by omega) U6 hHU6 hFU6 (v7) (v4) (1) (0) (by omega) (by omega) (by omega) (by omega) (by omega) (by omega) (by omega) (by omega) (by omega) (by first | exact I175 | exact I267 | exact I49 | exact I69 | exact ⟨fun _ => tcr_0 Z14.1 Z14.2, fun q => absurd q (by omega)⟩)) (by omega) (And.intro rfl (And.intro rfl (And.intro rfl (And.intro rfl (And.intro rfl (True.intro))))))
          · refine y_aload_n rfl rfl ?_
            refine y_gfr rfl rfl rfl rfl rfl (hHT2.r 904 2 906 rfl) ?_
            refine y_iload rfl rfl ?_
            refine y_baloadP (n := 5000) rfl rfl rfl (by decide) (by unfold rg; omega) (fun w43 w44 => ?_)
            have w45 : -2147483648 ≤ (Xi T2 906 ((v7).toNat)) ∧ (Xi T2 906 ((v7).toNat)) ≤ 2147483647 := Xi_rgI
            have y102 : Xi T2 906 (v7).toNat = Xi S 906 (v7).toNat := (hFT2.cx 906 rfl _).1
            have z102 := hb6 (v7).toNat
            refine y_callS rfl rfl (by decide) rfl (t_mo_isLetter__p hHT2 (Xi T2 906 ((v7).toNat)) ⟨by omega, by omega⟩ _) ?_
            rintro _ _ ⟨rfl, z46, rfl, w46, q103⟩
            show Pl _ _ _ _ _ _ [iv z46] _ _
            have l103 : z46 = ltr (Xi S 906 (v7).toNat) := by rw [← y102]; exact q103
            clear q103
            refine y_if_eq rfl rfl (by unfold rg; omega) (fun w47 => ?_) (fun w48 => ?_)
            · refine y_iload rfl rfl ?_
              have e115 : v7 = we7 (Xi S 906) v4 v3 := we7_x w89 (by first | exact Or.inl (by omega) | exact Or.inr (by omega))
              have p115 : v3 < v7 := by by_cases q : v7 = v3; (first | omega | (rw [← q] at f89; omega)); omega
              refine y_iload_n rfl rfl ?_
              refine y_isub rfl ?_
              refine y_bipush rfl rfl ?_
              refine y_icmp_gt rfl rfl (by unfold rg; omega) (by unfold rg; omega) (fun w49 => ?_) (fun w50 => ?_)
              · refine y_iconst rfl ?_
                refine y_istore rfl rfl rfl ?_
                refine y_aload_n rfl rfl ?_
                refine y_gfr rfl rfl rfl rfl rfl (hHT2.r 904 152 992 rfl) ?_
                refine y_aload_n rfl rfl ?_
                refine y_gfi rfl rfl rfl rfl rfl ?_
                refine y_iload rfl rfl ?_
                refine y_if_eq rfl rfl (by unfold rg; omega) (fun w51 => ?_) (fun w52 => absurd w52 (by omega))
                · refine y_lconst (z := 0) rfl rfl ?_
                  refine y_lastoreP (n := 8) rfl rfl (by unfold rg; omega) (fun w53 w54 => ?_)
                  obtain ⟨U7, eU7⟩ : ∃ T : sS, T = uJ T2 992 (((Xi T2 904 151)).toNat) (Int64.ofInt 0) := ⟨_, rfl⟩
                  rw [← eU7]
                  have hHU7 : RI U7 := by rw [eU7]; exact RI_J hHT2
                  have hFU7 : FR md_mo_isCommand__p S U7 := by rw [eU7]; exact FR.wJ hFT2 (mdf_i (r := (992, 993, 0, 100000)) (List.mem_of_getElem? (i := 3) rfl) (inR_i (by omega) (by omega) (by omega) (by omega)))
                  have e160 := eU7
                  refine y_aload_n rfl rfl ?_
                  refine y_dup rfl rfl ?_
                  refine y_gfi rfl rfl rfl rfl rfl ?_
                  have w55 : (Xi U7 904 151) = (Xi T2 904 151) := (show Xi U7 904 151 = Xi T2 904 151 from by rw [eU7]; rfl)
                  rw [w55]
                  refine y_iconst rfl ?_
                  refine y_iadd rfl ?_
                  refine y_pfi rfl rfl rfl rfl ?_
                  obtain ⟨U8, eU8⟩ : ∃ T : sS, T = uI U7 904 151 (Int32.ofInt ((Xi T2 904 151) + 1)) := ⟨_, rfl⟩
                  rw [← eU8]
                  have hHU8 : RI U8 := by rw [eU8]; exact RI_w hHU7
                  have hFU8 : FR md_mo_isCommand__p S U8 := by rw [eU8]; exact FR.wI hFU7 (mdf_i (r := (904, 905, 151, 152)) (List.mem_of_getElem? (i := 1) rfl) (inR_i (by omega) (by omega) (by omega) (by omega)))
                  have w56 : Xi U8 904 151 = ((Xi T2 904 151) + 1) := by rw [eU8]; exact Xi_same (by unfold rg; omega)
                  have e168 := eU8
                  refine y_iload rfl rfl ?_
                  refine y_istore_n rfl rfl rfl ?_
                  refine y_iconst rfl ?_
                  refine y_istore rfl rfl rfl ?_
                  have I175 : Hid (((0 : Int) ≠ 0 → TLCR S U8 v4 from_ v7 0) ∧ ((0 : Int) = 0 → bdR S v4 from_)) := by first | (have u := K153; exact ⟨fun _ => tcr_w (I89.o) (by omega) (by omega) (by omega) f89 rfl (by omega) e115 (by omega) c153 g153 e160 e168, fun q => absurd q (by omega)⟩) | exact ⟨fun q => absurd q (by omega), fun _ => tcr_l (n := Xi T2 904 151) (I89.o) (by omega) (by omega) (by omega) f89 rfl (by omega) e115 (by omega)⟩
                  refine y_goto rfl rfl ?_
                  have w57 : Xi U8 904 150 = Xi T2 904 150 := (show Xi U8 904 150 = Xi U7 904 150 from by rw [eU8]; exact Xi_ne (by omega)).trans ((show Xi U7 904 150 = Xi T2 904 150 from by rw [eU7]; rfl))
                  exact Pl_weak (ih23 (by omega) U8 hHU8 hFU8 (v7) (v4) (0) (0) (by omega) (by omega) (by omega) (by omega) (by omega) (by omega) (by omega) (by omega) (by omega) (by first | exact I175 | exact I267 | exact I49 | exact I69 | exact ⟨fun _ => tcr_0 Z14.1 Z14.2, fun q => absurd q (by omega)⟩)) (by omega) (And.intro rfl (And.intro rfl (And.intro rfl (And.intro rfl (And.intro rfl (True.intro))))))
              · refine y_iconst rfl ?_
                refine y_goto rfl rfl ?_
                refine y_istore rfl rfl rfl ?_
                refine y_aload_n rfl rfl ?_
                refine y_gfr rfl rfl rfl rfl rfl (hHT2.r 904 152 992 rfl) ?_
                refine y_aload_n rfl rfl ?_
                refine y_gfi rfl rfl rfl rfl rfl ?_
                refine y_iload rfl rfl ?_
                refine y_if_eq rfl rfl (by unfold rg; omega) (fun w58 => absurd w58 (by omega)) (fun w59 => ?_)
                · refine y_aload_n rfl rfl ?_
                  refine y_gfr rfl rfl rfl rfl rfl (hHT2.r 904 2 906 rfl) ?_
                  refine y_iload_n rfl rfl ?_
                  refine y_iload rfl rfl ?_
                  refine y_iload_n rfl rfl ?_
                  refine y_isub rfl ?_
                  refine y_callS rfl rfl (by decide) rfl (t_mo_wordOf__p hHT2 906 v3 (v7 - v3) (Or.inr rfl) ⟨by omega, by omega⟩ ⟨by omega, by omega⟩ (BYT_R hFT2 rfl hb6) (fun i a b => by rw [(hFT2.cx 906 rfl _).1]; exact L89.o i a (by omega)) _) ?_
                  rintro _ _ ⟨rfl, z60, rfl, f153, g153⟩
                  show Pl _ _ _ _ _ _ [jw z60, iv (Xi T2 904 151), .ref 992] _ _
                  have K153 : True := trivial
                  have c153 : z60 = c32 (Xi S 906) (v3).toNat (v7 - v3).toNat := by have u := f153; rw [(show Xi T2 906 = Xi S 906 from funext (fun j => (hFT2.cx 906 rfl j).1))] at u; exact u
                  clear f153
                  refine y_goto rfl rfl ?_
                  refine y_lastoreP (n := 8) rfl rfl (by unfold rg; omega) (fun w61 w62 => ?_)
                  obtain ⟨U9, eU9⟩ : ∃ T : sS, T = uJ T2 992 (((Xi T2 904 151)).toNat) (Int64.ofInt z60) := ⟨_, rfl⟩
                  rw [← eU9]
                  have hHU9 : RI U9 := by rw [eU9]; exact RI_J hHT2
                  have hFU9 : FR md_mo_isCommand__p S U9 := by rw [eU9]; exact FR.wJ hFT2 (mdf_i (r := (992, 993, 0, 100000)) (List.mem_of_getElem? (i := 3) rfl) (inR_i (by omega) (by omega) (by omega) (by omega)))
                  have e160 := eU9
                  refine y_aload_n rfl rfl ?_
                  refine y_dup rfl rfl ?_
                  refine y_gfi rfl rfl rfl rfl rfl ?_
                  have w63 : (Xi U9 904 151) = (Xi T2 904 151) := (show Xi U9 904 151 = Xi T2 904 151 from by rw [eU9]; rfl)
                  rw [w63]
                  refine y_iconst rfl ?_
                  refine y_iadd rfl ?_
                  refine y_pfi rfl rfl rfl rfl ?_
                  obtain ⟨U10, eU10⟩ : ∃ T : sS, T = uI U9 904 151 (Int32.ofInt ((Xi T2 904 151) + 1)) := ⟨_, rfl⟩
                  rw [← eU10]
                  have hHU10 : RI U10 := by rw [eU10]; exact RI_w hHU9
                  have hFU10 : FR md_mo_isCommand__p S U10 := by rw [eU10]; exact FR.wI hFU9 (mdf_i (r := (904, 905, 151, 152)) (List.mem_of_getElem? (i := 1) rfl) (inR_i (by omega) (by omega) (by omega) (by omega)))
                  have w64 : Xi U10 904 151 = ((Xi T2 904 151) + 1) := by rw [eU10]; exact Xi_same (by unfold rg; omega)
                  have e168 := eU10
                  refine y_iload rfl rfl ?_
                  refine y_istore_n rfl rfl rfl ?_
                  refine y_iconst rfl ?_
                  refine y_istore rfl rfl rfl ?_
                  have I175 : Hid (((1 : Int) ≠ 0 → TLCR S U10 v4 from_ v7 0) ∧ ((1 : Int) = 0 → bdR S v4 from_)) := by first | (have u := K153; exact ⟨fun _ => tcr_w (I89.o) (by omega) (by omega) (by omega) f89 rfl (by omega) e115 (by omega) c153 g153 e160 e168, fun q => absurd q (by omega)⟩) | exact ⟨fun q => absurd q (by omega), fun _ => tcr_l (n := Xi T2 904 151) (I89.o) (by omega) (by omega) (by omega) f89 rfl (by omega) e115 (by omega)⟩
                  refine y_goto rfl rfl ?_
                  have w65 : Xi U10 904 150 = Xi T2 904 150 := (show Xi U10 904 150 = Xi U9 904 150 from by rw [eU10]; exact Xi_ne (by omega)).trans ((show Xi U9 904 150 = Xi T2 904 150 from by rw [eU9]; rfl))
                  exact Pl_weak (ih23 (by omega) U10 hHU10 hFU10 (v7) (v4) (1) (0) (by omega) (by omega) (by omega) (by omega) (by omega) (by omega) (by omega) (by omega) (by omega) (by first | exact I175 | exact I267 | exact I49 | exact I69 | exact ⟨fun _ => tcr_0 Z14.1 Z14.2, fun q => absurd q (by omega)⟩)) (by omega) (And.intro rfl (And.intro rfl (And.intro rfl (And.intro rfl (And.intro rfl (True.intro))))))
            · refine y_iinc rfl rfl rfl rfl ?_
              have w109 : we7 (Xi S 906) v4 v3 = we7 (Xi S 906) v4 (v7 + 1) := we7_t w89 (by omega) (by omega)
              have L109 : Hid (∀ j : Nat, v3 ≤ (j : Int) → (j : Int) < v7 + 1 → ltr (Xi S 906 j) = 1) := fun j a b => by by_cases q : (j : Int) < v7; (exact L89.o j a q); (rw [show j = (v7).toNat by omega]; omega)
              refine y_goto rfl rfl ?_
              exact Pl_weak (ih89 (by omega) T2 hHT2 hFT2 (v3) (v4) ((v7 + 1)) (by omega) (by omega) (by omega) (by omega) (by omega) (by omega) (by omega) (by omega) (by first | exact f89 | omega) (by first | exact I89 | exact I23.o.1 (by omega)) (by first | exact w109 | rfl) (by first | exact L109 | exact fun j a b => absurd a (by omega))) (by omega) (And.intro rfl (And.intro rfl (And.intro rfl (And.intro rfl (True.intro)))))
      refine ys_iload rfl rfl ?_
      refine y_if_eq rfl rfl (by unfold rg; omega) (fun w66 => ?_) (fun w67 => ?_)
      · refine y_iload rfl rfl ?_
        refine y_if_eq rfl rfl (by unfold rg; omega) (fun w68 => ?_) (fun w69 => ?_)
        · refine y_iconst rfl ?_
          refine y_ireturn rfl rfl ?_
          exact ⟨hHT1, hFT1, _, rfl, ⟨by omega, by omega⟩, (by have hv : v4 = from_ + n := (by omega); rw [← hv]; first | exact tcr_f (I23.o.2 (by omega)) (by omega) | exact tcr_z (I23.o.1 (by omega)) (by omega) (by omega) (by omega))⟩
        · refine y_aload_n rfl rfl ?_
          refine y_gfi rfl rfl rfl rfl rfl ?_
          refine y_if_le rfl rfl (by unfold rg; omega) (fun w70 => ?_) (fun w71 => ?_)
          · refine y_iconst rfl ?_
            refine y_ireturn rfl rfl ?_
            exact ⟨hHT1, hFT1, _, rfl, ⟨by omega, by omega⟩, (by have hv : v4 = from_ + n := (by omega); rw [← hv]; first | exact tcr_f (I23.o.2 (by omega)) (by omega) | exact tcr_z (I23.o.1 (by omega)) (by omega) (by omega) (by omega))⟩
          · refine y_iconst rfl ?_
            refine y_goto rfl rfl ?_
            refine y_ireturn rfl rfl ?_
            exact ⟨hHT1, hFT1, _, rfl, ⟨by omega, by omega⟩, (by have hv : v4 = from_ + n := (by omega); rw [← hv]; first | exact tcr_f (I23.o.2 (by omega)) (by omega) | exact tcr_z (I23.o.1 (by omega)) (by omega) (by omega) (by omega))⟩
      · refine y_iload_n rfl rfl ?_
        refine y_iload rfl rfl ?_
        refine y_icmp_ge rfl rfl (by unfold rg; omega) (by unfold rg; omega) (fun w72 => ?_) (fun w73 => ?_)
        · refine y_iload rfl rfl ?_
          refine y_if_eq rfl rfl (by unfold rg; omega) (fun w74 => ?_) (fun w75 => ?_)
          · refine y_iconst rfl ?_
            refine y_ireturn rfl rfl ?_
            exact ⟨hHT1, hFT1, _, rfl, ⟨by omega, by omega⟩, (by have hv : v4 = from_ + n := (by omega); rw [← hv]; first | exact tcr_f (I23.o.2 (by omega)) (by omega) | exact tcr_z (I23.o.1 (by omega)) (by omega) (by omega) (by omega))⟩
          · refine y_aload_n rfl rfl ?_
            refine y_gfi rfl rfl rfl rfl rfl ?_
            refine y_if_le rfl rfl (by unfold rg; omega) (fun w76 => ?_) (fun w77 => ?_)
            · refine y_iconst rfl ?_
              refine y_ireturn rfl rfl ?_
              exact ⟨hHT1, hFT1, _, rfl, ⟨by omega, by omega⟩, (by have hv : v4 = from_ + n := (by omega); rw [← hv]; first | exact tcr_f (I23.o.2 (by omega)) (by omega) | exact tcr_z (I23.o.1 (by omega)) (by omega) (by omega) (by omega))⟩
            · refine y_iconst rfl ?_
              refine y_goto rfl rfl ?_
              refine y_ireturn rfl rfl ?_
              exact ⟨hHT1, hFT1, _, rfl, ⟨by omega, by omega⟩, (by have hv : v4 = from_ + n := (by omega); rw [← hv]; first | exact tcr_f (I23.o.2 (by omega)) (by omega) | exact tcr_z (I23.o.1 (by omega)) (by omega) (by omega) (by omega))⟩
        · refine y_aload_n rfl rfl ?_
          refine y_gfr rfl rfl rfl rfl rfl (hHT1.r 904 2 906 rfl) ?_
          refine y_iload_n rfl rfl ?_
          refine y_baloadP (n := 5000) rfl rfl rfl (by decide) (by unfold rg; omega) (fun w78 w79 => ?_)
          have w80 : -2147483648 ≤ (Xi T1 906 ((v3).toNat)) ∧ (Xi T1 906 ((v3).toNat)) ≤ 2147483647 := Xi_rgI
          have y39 : Xi T1 906 (v3).toNat = Xi S 906 (v3).toNat := (hFT1.cx 906 rfl _).1
          have z39 := hb6 (v3).toNat
          refine y_bipush rfl rfl ?_
          refine y_icmp_ne rfl rfl (by unfold rg; omega) (by unfold rg; omega) (fun w81 => ?_) (fun w82 => ?_)
          · refine y_iload rfl rfl ?_
            refine y_if_eq rfl rfl (by unfold rg; omega) (fun w83 => ?_) (fun w84 => ?_)
            · refine y_iconst rfl ?_
              refine y_istore rfl rfl rfl ?_
              have I69 : Hid ((((0 : Int) : Int) ≠ 0 → TLCR S T1 v4 from_ v3 v6) ∧ (((0 : Int) : Int) = 0 → bdR S v4 from_)) := ⟨fun q => absurd q (by omega), fun _ => tcr_x (n := Xi T1 904 151) (I23.o.1 (by omega)) (by omega) rfl (by omega) (by omega) (by omega)⟩
              refine y_goto rfl rfl ?_
              exact Pl_weak (ih23 (by omega) T1 hHT1 hFT1 (v3) (v4) (0) (v6) (by omega) (by omega) (by omega) (by omega) (by omega) (by omega) (by omega) (by omega) (by omega) (by first | exact I175 | exact I267 | exact I49 | exact I69 | exact ⟨fun _ => tcr_0 Z14.1 Z14.2, fun q => absurd q (by omega)⟩)) (by omega) (And.intro rfl (And.intro rfl (And.intro rfl (And.intro rfl (And.intro rfl (True.intro))))))
            · refine y_aload_n rfl rfl ?_
              refine y_gfi rfl rfl rfl rfl rfl ?_
              refine y_bipush rfl rfl ?_
              refine y_icmp_ne rfl rfl (by unfold rg; omega) (by unfold rg; omega) (fun w85 => ?_) (fun w86 => ?_)
              · refine y_aload_n rfl rfl ?_
                refine y_gfr rfl rfl rfl rfl rfl (hHT1.r 904 2 906 rfl) ?_
                refine y_iload_n rfl rfl ?_
                refine y_baloadP (n := 5000) rfl rfl rfl (by decide) (by unfold rg; omega) (fun w87 w88 => ?_)
                have y79 : Xi T1 906 (v3).toNat = Xi S 906 (v3).toNat := (hFT1.cx 906 rfl _).1
                refine y_callS rfl rfl (by decide) rfl (t_mo_isLetter__p hHT1 (Xi T1 906 ((v3).toNat)) ⟨by omega, by omega⟩ _) ?_
                rintro _ _ ⟨rfl, z89, rfl, w89, q80⟩
                show Pl _ _ _ _ _ _ [iv z89] _ _
                have l80 : z89 = ltr (Xi S 906 (v3).toNat) := by rw [← y79]; exact q80
                clear q80
                refine y_if_eq rfl rfl (by unfold rg; omega) (fun w90 => ?_) (fun w91 => ?_)
                · refine y_aload_n rfl rfl ?_
                  refine y_gfr rfl rfl rfl rfl rfl (hHT1.r 904 2 906 rfl) ?_
                  refine y_iload_n rfl rfl ?_
                  refine y_baloadP (n := 5000) rfl rfl rfl (by decide) (by unfold rg; omega) (fun w92 w93 => ?_)
                  have y185 : Xi T1 906 (v3).toNat = Xi S 906 (v3).toNat := (hFT1.cx 906 rfl _).1
                  refine y_bipush rfl rfl ?_
                  refine y_icmp_ne rfl rfl (by unfold rg; omega) (by unfold rg; omega) (fun w94 => ?_) (fun w95 => ?_)
                  · refine y_iconst rfl ?_
                    refine y_istore rfl rfl rfl ?_
                    refine y_iload rfl rfl ?_
                    refine y_if_eq rfl rfl (by unfold rg; omega) (fun w96 => ?_) (fun w97 => absurd w97 (by omega))
                    · refine y_iload_n rfl rfl ?_
                      refine y_istore_n rfl rfl rfl ?_
                      refine y_iload rfl rfl ?_
                      refine y_if_eq rfl rfl (by unfold rg; omega) (fun w98 => ?_) (fun w99 => absurd w99 (by omega))
                      · refine y_iconst rfl ?_
                        refine y_istore rfl rfl rfl ?_
                        refine y_aload_n rfl rfl ?_
                        refine y_gfr rfl rfl rfl rfl rfl (hHT1.r 904 152 992 rfl) ?_
                        refine y_bipush rfl rfl ?_
                        refine y_aload_n rfl rfl ?_
                        refine y_gfi rfl rfl rfl rfl rfl ?_
                        refine y_min rfl rfl rfl (by unfold rg; omega) (by unfold rg; omega) ?_
                        refine y_lconst (z := 0) rfl rfl ?_
                        refine y_lastoreP (n := 8) rfl rfl (by unfold rg; omega) (fun w100 w101 => ?_)
                        obtain ⟨U11, eU11⟩ : ∃ T : sS, T = uJ T1 992 (((if (Xi T1 904 151) < 7 then (Xi T1 904 151) else 7)).toNat) (Int64.ofInt 0) := ⟨_, rfl⟩
                        rw [← eU11]
                        have hHU11 : RI U11 := by rw [eU11]; exact RI_J hHT1
                        have hFU11 : FR md_mo_isCommand__p S U11 := by rw [eU11]; exact FR.wJ hFT1 (mdf_i (r := (992, 993, 0, 100000)) (List.mem_of_getElem? (i := 3) rfl) (inR_i (by omega) (by omega) (by omega) (by omega)))
                        have e255 := eU11
                        refine y_aload_n rfl rfl ?_
                        refine y_dup rfl rfl ?_
                        refine y_gfi rfl rfl rfl rfl rfl ?_
                        have w102 : (Xi U11 904 151) = (Xi T1 904 151) := (show Xi U11 904 151 = Xi T1 904 151 from by rw [eU11]; rfl)
                        rw [w102]
                        refine y_iconst rfl ?_
                        refine y_iadd rfl ?_
                        refine y_pfi rfl rfl rfl rfl ?_
                        obtain ⟨U12, eU12⟩ : ∃ T : sS, T = uI U11 904 151 (Int32.ofInt ((Xi T1 904 151) + 1)) := ⟨_, rfl⟩
                        rw [← eU12]
                        have hHU12 : RI U12 := by rw [eU12]; exact RI_w hHU11
                        have hFU12 : FR md_mo_isCommand__p S U12 := by rw [eU12]; exact FR.wI hFU11 (mdf_i (r := (904, 905, 151, 152)) (List.mem_of_getElem? (i := 1) rfl) (inR_i (by omega) (by omega) (by omega) (by omega)))
                        have w103 : Xi U12 904 151 = ((Xi T1 904 151) + 1) := by rw [eU12]; exact Xi_same (by unfold rg; omega)
                        have e263 := eU12
                        refine y_iconst rfl ?_
                        refine y_istore rfl rfl rfl ?_
                        have I267 : Hid (((0 : Int) ≠ 0 → TLCR S U12 v4 from_ v3 0) ∧ ((0 : Int) = 0 → bdR S v4 from_)) := by first | (have u := K216; first | exact ⟨fun _ => tcr_g (I23.o.1 (by omega)) (by omega) (by omega) (by omega) (by omega) (by omega) rfl (by omega) (by omega) F216 rfl rfl G216 (by omega) (by split <;> omega) e255 e263, fun q => absurd q (by omega)⟩ | exact ⟨fun q => absurd q (by omega), fun _ => tcr_g1 (n := Xi T1 904 151) (I23.o.1 (by omega)) (by omega) (by omega) (by omega) (by omega) rfl (by omega) (by omega) G216.1 (by omega)⟩) | exact ⟨fun q => absurd q (by omega), fun _ => tcr_n (I23.o.1 (by omega)) (by omega) (by omega) (by omega) (by omega) (by omega) (by omega)⟩
                        refine y_goto rfl rfl ?_
                        have w104 : Xi U12 904 150 = Xi T1 904 150 := (show Xi U12 904 150 = Xi U11 904 150 from by rw [eU12]; exact Xi_ne (by omega)).trans ((show Xi U11 904 150 = Xi T1 904 150 from by rw [eU11]; rfl))
                        exact Pl_weak (ih23 (by omega) U12 hHU12 hFU12 (v3) (v4) (0) (0) (by omega) (by omega) (by omega) (by omega) (by omega) (by omega) (by omega) (by omega) (by omega) (by first | exact I175 | exact I267 | exact I49 | exact I69 | exact ⟨fun _ => tcr_0 Z14.1 Z14.2, fun q => absurd q (by omega)⟩)) (by omega) (And.intro rfl (And.intro rfl (And.intro rfl (And.intro rfl (And.intro rfl (True.intro))))))
                  · refine y_aload_n rfl rfl ?_
                    refine y_gfi rfl rfl rfl rfl rfl ?_
                    refine y_if_ne rfl rfl (by unfold rg; omega) (fun w105 => ?_) (fun w106 => ?_)
                    · refine y_iconst rfl ?_
                      refine y_istore rfl rfl rfl ?_
                      refine y_iload rfl rfl ?_
                      refine y_if_eq rfl rfl (by unfold rg; omega) (fun w107 => ?_) (fun w108 => absurd w108 (by omega))
                      · refine y_iload_n rfl rfl ?_
                        refine y_istore_n rfl rfl rfl ?_
                        refine y_iload rfl rfl ?_
                        refine y_if_eq rfl rfl (by unfold rg; omega) (fun w109 => ?_) (fun w110 => absurd w110 (by omega))
                        · refine y_iconst rfl ?_
                          refine y_istore rfl rfl rfl ?_
                          refine y_aload_n rfl rfl ?_
                          refine y_gfr rfl rfl rfl rfl rfl (hHT1.r 904 152 992 rfl) ?_
                          refine y_bipush rfl rfl ?_
                          refine y_aload_n rfl rfl ?_
                          refine y_gfi rfl rfl rfl rfl rfl ?_
                          refine y_min rfl rfl rfl (by unfold rg; omega) (by unfold rg; omega) ?_
                          refine y_lconst (z := 0) rfl rfl ?_
                          refine y_lastoreP (n := 8) rfl rfl (by unfold rg; omega) (fun w111 w112 => ?_)
                          obtain ⟨U13, eU13⟩ : ∃ T : sS, T = uJ T1 992 (((if (Xi T1 904 151) < 7 then (Xi T1 904 151) else 7)).toNat) (Int64.ofInt 0) := ⟨_, rfl⟩
                          rw [← eU13]
                          have hHU13 : RI U13 := by rw [eU13]; exact RI_J hHT1
                          have hFU13 : FR md_mo_isCommand__p S U13 := by rw [eU13]; exact FR.wJ hFT1 (mdf_i (r := (992, 993, 0, 100000)) (List.mem_of_getElem? (i := 3) rfl) (inR_i (by omega) (by omega) (by omega) (by omega)))
                          have e255 := eU13
                          refine y_aload_n rfl rfl ?_
                          refine y_dup rfl rfl ?_
                          refine y_gfi rfl rfl rfl rfl rfl ?_
                          have w113 : (Xi U13 904 151) = (Xi T1 904 151) := (show Xi U13 904 151 = Xi T1 904 151 from by rw [eU13]; rfl)
                          rw [w113]
                          refine y_iconst rfl ?_
                          refine y_iadd rfl ?_
                          refine y_pfi rfl rfl rfl rfl ?_
                          obtain ⟨U14, eU14⟩ : ∃ T : sS, T = uI U13 904 151 (Int32.ofInt ((Xi T1 904 151) + 1)) := ⟨_, rfl⟩
                          rw [← eU14]
                          have hHU14 : RI U14 := by rw [eU14]; exact RI_w hHU13
                          have hFU14 : FR md_mo_isCommand__p S U14 := by rw [eU14]; exact FR.wI hFU13 (mdf_i (r := (904, 905, 151, 152)) (List.mem_of_getElem? (i := 1) rfl) (inR_i (by omega) (by omega) (by omega) (by omega)))
                          have w114 : Xi U14 904 151 = ((Xi T1 904 151) + 1) := by rw [eU14]; exact Xi_same (by unfold rg; omega)
                          have e263 := eU14
                          refine y_iconst rfl ?_
                          refine y_istore rfl rfl rfl ?_
                          have I267 : Hid (((0 : Int) ≠ 0 → TLCR S U14 v4 from_ v3 0) ∧ ((0 : Int) = 0 → bdR S v4 from_)) := by first | (have u := K216; first | exact ⟨fun _ => tcr_g (I23.o.1 (by omega)) (by omega) (by omega) (by omega) (by omega) (by omega) rfl (by omega) (by omega) F216 rfl rfl G216 (by omega) (by split <;> omega) e255 e263, fun q => absurd q (by omega)⟩ | exact ⟨fun q => absurd q (by omega), fun _ => tcr_g1 (n := Xi T1 904 151) (I23.o.1 (by omega)) (by omega) (by omega) (by omega) (by omega) rfl (by omega) (by omega) G216.1 (by omega)⟩) | exact ⟨fun q => absurd q (by omega), fun _ => tcr_n (I23.o.1 (by omega)) (by omega) (by omega) (by omega) (by omega) (by omega) (by omega)⟩
                          refine y_goto rfl rfl ?_
                          have w115 : Xi U14 904 150 = Xi T1 904 150 := (show Xi U14 904 150 = Xi U13 904 150 from by rw [eU14]; exact Xi_ne (by omega)).trans ((show Xi U13 904 150 = Xi T1 904 150 from by rw [eU13]; rfl))
                          exact Pl_weak (ih23 (by omega) U14 hHU14 hFU14 (v3) (v4) (0) (0) (by omega) (by omega) (by omega) (by omega) (by omega) (by omega) (by omega) (by omega) (by omega) (by first | exact I175 | exact I267 | exact I49 | exact I69 | exact ⟨fun _ => tcr_0 Z14.1 Z14.2, fun q => absurd q (by omega)⟩)) (by omega) (And.intro rfl (And.intro rfl (And.intro rfl (And.intro rfl (And.intro rfl (True.intro))))))
                    · refine y_iconst rfl ?_
                      refine y_goto rfl rfl ?_
                      refine y_istore rfl rfl rfl ?_
                      refine y_iload rfl rfl ?_
                      refine y_if_eq rfl rfl (by unfold rg; omega) (fun w116 => absurd w116 (by omega)) (fun w117 => ?_)
                      · refine y_aload_n rfl rfl ?_
                        refine y_iload_n rfl rfl ?_
                        refine y_iconst rfl ?_
                        refine y_iadd rfl ?_
                        refine y_iload rfl rfl ?_
                        refine y_callV rfl rfl rfl (t_mo_slot__p hHT1 (v3 + 1) v4 ⟨by omega, by omega⟩ ⟨by omega, by omega⟩ (BYT_R hFT1 rfl hb6) (by first | assumption | omega) (by first | assumption | omega) _) ?_
                        rintro _ T15 ⟨hHT15, w120, z119, rfl, w119, o216, w118⟩
                        have hFT15 : FR md_mo_isCommand__p S T15 := FR.tr hFT1 w120 rfl
                        show Pl _ _ _ _ _ _ [iv z119] _ _
                        have K216 : True := trivial
                        have G216 := gpor_F hFT1 rfl rfl o216
                        clear o216
                        have F216 := (by assumption : FR md_mo_slot__p T1 T15)
                        refine y_goto rfl rfl ?_
                        refine y_istore_n rfl rfl rfl ?_
                        refine y_iload rfl rfl ?_
                        refine y_if_eq rfl rfl (by unfold rg; omega) (fun w121 => absurd w121 (by omega)) (fun w122 => ?_)
                        · refine y_iload_n rfl rfl ?_
                          refine y_iconst rfl ?_
                          refine y_icmp_eq rfl rfl (by unfold rg; omega) (by unfold rg; omega) (fun w123 => ?_) (fun w124 => ?_)
                          · refine y_iconst rfl ?_
                            refine y_istore rfl rfl rfl ?_
                            refine y_aload_n rfl rfl ?_
                            refine y_gfr rfl rfl rfl rfl rfl (hHT15.r 904 152 992 rfl) ?_
                            refine y_bipush rfl rfl ?_
                            refine y_aload_n rfl rfl ?_
                            refine y_gfi rfl rfl rfl rfl rfl ?_
                            have w125 : (Xi T15 904 151) = (Xi T1 904 151) := (show Xi T15 904 151 = Xi T1 904 151 from w120.x _ _ rfl)
                            rw [w125]
                            refine y_min rfl rfl rfl (by unfold rg; omega) (by unfold rg; omega) ?_
                            refine y_lconst (z := 0) rfl rfl ?_
                            refine y_lastoreP (n := 8) rfl rfl (by unfold rg; omega) (fun w126 w127 => ?_)
                            obtain ⟨U16, eU16⟩ : ∃ T : sS, T = uJ T15 992 (((if (Xi T1 904 151) < 7 then (Xi T1 904 151) else 7)).toNat) (Int64.ofInt 0) := ⟨_, rfl⟩
                            rw [← eU16]
                            have hHU16 : RI U16 := by rw [eU16]; exact RI_J hHT15
                            have hFU16 : FR md_mo_isCommand__p S U16 := by rw [eU16]; exact FR.wJ hFT15 (mdf_i (r := (992, 993, 0, 100000)) (List.mem_of_getElem? (i := 3) rfl) (inR_i (by omega) (by omega) (by omega) (by omega)))
                            have e255 := eU16
                            refine y_aload_n rfl rfl ?_
                            refine y_dup rfl rfl ?_
                            refine y_gfi rfl rfl rfl rfl rfl ?_
                            have w128 : (Xi U16 904 151) = (Xi T1 904 151) := (show Xi U16 904 151 = Xi T15 904 151 from by rw [eU16]; rfl).trans ((show Xi T15 904 151 = Xi T1 904 151 from w120.x _ _ rfl))
                            rw [w128]
                            refine y_iconst rfl ?_
                            refine y_iadd rfl ?_
                            refine y_pfi rfl rfl rfl rfl ?_
                            obtain ⟨U17, eU17⟩ : ∃ T : sS, T = uI U16 904 151 (Int32.ofInt ((Xi T1 904 151) + 1)) := ⟨_, rfl⟩
                            rw [← eU17]
                            have hHU17 : RI U17 := by rw [eU17]; exact RI_w hHU16
                            have hFU17 : FR md_mo_isCommand__p S U17 := by rw [eU17]; exact FR.wI hFU16 (mdf_i (r := (904, 905, 151, 152)) (List.mem_of_getElem? (i := 1) rfl) (inR_i (by omega) (by omega) (by omega) (by omega)))
                            have w129 : Xi U17 904 151 = ((Xi T1 904 151) + 1) := by rw [eU17]; exact Xi_same (by unfold rg; omega)
                            have e263 := eU17
                            refine y_iconst rfl ?_
                            refine y_istore rfl rfl rfl ?_
                            have I267 : Hid (((0 : Int) ≠ 0 → TLCR S U17 v4 from_ z119 0) ∧ ((0 : Int) = 0 → bdR S v4 from_)) := by first | (have u := K216; first | exact ⟨fun _ => tcr_g (I23.o.1 (by omega)) (by omega) (by omega) (by omega) (by omega) (by omega) rfl (by omega) (by omega) F216 rfl rfl G216 (by omega) (by split <;> omega) e255 e263, fun q => absurd q (by omega)⟩ | exact ⟨fun q => absurd q (by omega), fun _ => tcr_g1 (n := Xi T1 904 151) (I23.o.1 (by omega)) (by omega) (by omega) (by omega) (by omega) rfl (by omega) (by omega) G216.1 (by omega)⟩) | exact ⟨fun q => absurd q (by omega), fun _ => tcr_n (I23.o.1 (by omega)) (by omega) (by omega) (by omega) (by omega) (by omega) (by omega)⟩
                            refine y_goto rfl rfl ?_
                            have w130 : Xi U17 904 150 = Xi T15 904 150 := (show Xi U17 904 150 = Xi U16 904 150 from by rw [eU17]; exact Xi_ne (by omega)).trans ((show Xi U16 904 150 = Xi T15 904 150 from by rw [eU16]; rfl))
                            exact Pl_weak (ih23 (by omega) U17 hHU17 hFU17 (z119) (v4) (0) (0) (by omega) (by omega) (by omega) (by omega) (by omega) (by omega) (by omega) (by omega) (by omega) (by first | exact I175 | exact I267 | exact I49 | exact I69 | exact ⟨fun _ => tcr_0 Z14.1 Z14.2, fun q => absurd q (by omega)⟩)) (by omega) (And.intro rfl (And.intro rfl (And.intro rfl (And.intro rfl (And.intro rfl (True.intro))))))
                          · refine y_iconst rfl ?_
                            refine y_goto rfl rfl ?_
                            refine y_istore rfl rfl rfl ?_
                            refine y_aload_n rfl rfl ?_
                            refine y_gfr rfl rfl rfl rfl rfl (hHT15.r 904 152 992 rfl) ?_
                            refine y_bipush rfl rfl ?_
                            refine y_aload_n rfl rfl ?_
                            refine y_gfi rfl rfl rfl rfl rfl ?_
                            have w131 : (Xi T15 904 151) = (Xi T1 904 151) := (show Xi T15 904 151 = Xi T1 904 151 from w120.x _ _ rfl)
                            rw [w131]
                            refine y_min rfl rfl rfl (by unfold rg; omega) (by unfold rg; omega) ?_
                            refine y_lconst (z := 0) rfl rfl ?_
                            refine y_lastoreP (n := 8) rfl rfl (by unfold rg; omega) (fun w132 w133 => ?_)
                            obtain ⟨U18, eU18⟩ : ∃ T : sS, T = uJ T15 992 (((if (Xi T1 904 151) < 7 then (Xi T1 904 151) else 7)).toNat) (Int64.ofInt 0) := ⟨_, rfl⟩
                            rw [← eU18]
                            have hHU18 : RI U18 := by rw [eU18]; exact RI_J hHT15
                            have hFU18 : FR md_mo_isCommand__p S U18 := by rw [eU18]; exact FR.wJ hFT15 (mdf_i (r := (992, 993, 0, 100000)) (List.mem_of_getElem? (i := 3) rfl) (inR_i (by omega) (by omega) (by omega) (by omega)))
                            have e255 := eU18
                            refine y_aload_n rfl rfl ?_
                            refine y_dup rfl rfl ?_
                            refine y_gfi rfl rfl rfl rfl rfl ?_
                            have w134 : (Xi U18 904 151) = (Xi T1 904 151) := (show Xi U18 904 151 = Xi T15 904 151 from by rw [eU18]; rfl).trans ((show Xi T15 904 151 = Xi T1 904 151 from w120.x _ _ rfl))
                            rw [w134]
                            refine y_iconst rfl ?_
                            refine y_iadd rfl ?_
                            refine y_pfi rfl rfl rfl rfl ?_
                            obtain ⟨U19, eU19⟩ : ∃ T : sS, T = uI U18 904 151 (Int32.ofInt ((Xi T1 904 151) + 1)) := ⟨_, rfl⟩
                            rw [← eU19]
                            have hHU19 : RI U19 := by rw [eU19]; exact RI_w hHU18
                            have hFU19 : FR md_mo_isCommand__p S U19 := by rw [eU19]; exact FR.wI hFU18 (mdf_i (r := (904, 905, 151, 152)) (List.mem_of_getElem? (i := 1) rfl) (inR_i (by omega) (by omega) (by omega) (by omega)))
                            have w135 : Xi U19 904 151 = ((Xi T1 904 151) + 1) := by rw [eU19]; exact Xi_same (by unfold rg; omega)
                            have e263 := eU19
                            refine y_iconst rfl ?_
                            refine y_istore rfl rfl rfl ?_
                            have I267 : Hid (((1 : Int) ≠ 0 → TLCR S U19 v4 from_ z119 0) ∧ ((1 : Int) = 0 → bdR S v4 from_)) := by first | (have u := K216; first | exact ⟨fun _ => tcr_g (I23.o.1 (by omega)) (by omega) (by omega) (by omega) (by omega) (by omega) rfl (by omega) (by omega) F216 rfl rfl G216 (by omega) (by split <;> omega) e255 e263, fun q => absurd q (by omega)⟩ | exact ⟨fun q => absurd q (by omega), fun _ => tcr_g1 (n := Xi T1 904 151) (I23.o.1 (by omega)) (by omega) (by omega) (by omega) (by omega) rfl (by omega) (by omega) G216.1 (by omega)⟩) | exact ⟨fun q => absurd q (by omega), fun _ => tcr_n (I23.o.1 (by omega)) (by omega) (by omega) (by omega) (by omega) (by omega) (by omega)⟩
                            refine y_goto rfl rfl ?_
                            have w136 : Xi U19 904 150 = Xi T15 904 150 := (show Xi U19 904 150 = Xi U18 904 150 from by rw [eU19]; exact Xi_ne (by omega)).trans ((show Xi U18 904 150 = Xi T15 904 150 from by rw [eU18]; rfl))
                            exact Pl_weak (ih23 (by omega) U19 hHU19 hFU19 (z119) (v4) (1) (0) (by omega) (by omega) (by omega) (by omega) (by omega) (by omega) (by omega) (by omega) (by omega) (by first | exact I175 | exact I267 | exact I49 | exact I69 | exact ⟨fun _ => tcr_0 Z14.1 Z14.2, fun q => absurd q (by omega)⟩)) (by omega) (And.intro rfl (And.intro rfl (And.intro rfl (And.intro rfl (And.intro rfl (True.intro))))))
                · refine y_iload_n rfl rfl ?_
                  refine y_istore rfl rfl rfl ?_
                  exact Pl_weak (C89 n23 (by omega) T1 hHT1 hFT1 (v3) (v4) (v3) (by omega) (by omega) (by omega) (by omega) (by omega) (by omega) (by omega) (by omega) (by first | exact f89 | omega) (by first | exact I89 | exact I23.o.1 (by omega)) (by first | exact w109 | rfl) (by first | exact L109 | exact fun j a b => absurd a (by omega))) (by omega) (And.intro rfl (And.intro rfl (And.intro rfl (And.intro rfl (True.intro)))))
              · refine y_iconst rfl ?_
                refine y_istore rfl rfl rfl ?_
                have I69 : Hid ((((0 : Int) : Int) ≠ 0 → TLCR S T1 v4 from_ v3 v6) ∧ (((0 : Int) : Int) = 0 → bdR S v4 from_)) := ⟨fun q => absurd q (by omega), fun _ => tcr_x (n := Xi T1 904 151) (I23.o.1 (by omega)) (by omega) rfl (by omega) (by omega) (by omega)⟩
                refine y_goto rfl rfl ?_
                exact Pl_weak (ih23 (by omega) T1 hHT1 hFT1 (v3) (v4) (0) (v6) (by omega) (by omega) (by omega) (by omega) (by omega) (by omega) (by omega) (by omega) (by omega) (by first | exact I175 | exact I267 | exact I49 | exact I69 | exact ⟨fun _ => tcr_0 Z14.1 Z14.2, fun q => absurd q (by omega)⟩)) (by omega) (And.intro rfl (And.intro rfl (And.intro rfl (And.intro rfl (And.intro rfl (True.intro))))))
          · refine y_iinc rfl rfl rfl rfl ?_
            refine y_iconst rfl ?_
            refine y_istore rfl rfl rfl ?_
            have I49 : Hid (((v5 : Int) ≠ 0 → TLCR S T1 v4 from_ (v3 + 1) 1) ∧ ((v5 : Int) = 0 → bdR S v4 from_)) := ⟨fun _ => tcr_b (I23.o.1 (by omega)) (by omega) (by omega), fun q => absurd q (by omega)⟩
            refine y_goto rfl rfl ?_
            exact Pl_weak (ih23 (by omega) T1 hHT1 hFT1 ((v3 + 1)) (v4) (v5) (1) (by omega) (by omega) (by omega) (by omega) (by omega) (by omega) (by omega) (by omega) (by omega) (by first | exact I175 | exact I267 | exact I49 | exact I69 | exact ⟨fun _ => tcr_0 Z14.1 Z14.2, fun q => absurd q (by omega)⟩)) (by omega) (And.intro rfl (And.intro rfl (And.intro rfl (And.intro rfl (And.intro rfl (True.intro))))))
  refine y_iload_n rfl rfl ?_
  refine y_istore_n rfl rfl rfl ?_
  refine y_iload_n rfl rfl ?_
  refine y_iload_n rfl rfl ?_
  refine y_iadd rfl ?_
  refine y_istore rfl rfl rfl ?_
  refine y_aload_n rfl rfl ?_
  refine y_iconst rfl ?_
  refine y_pfi rfl rfl rfl rfl ?_
  obtain ⟨U20, eU20⟩ : ∃ T : sS, T = uI S 904 151 (Int32.ofInt 0) := ⟨_, rfl⟩
  rw [← eU20]
  have hHU20 : RI U20 := by rw [eU20]; exact RI_w hH
  have hFU20 : FR md_mo_isCommand__p S U20 := by rw [eU20]; exact FR.wI hF (mdf_i (r := (904, 905, 151, 152)) (List.mem_of_getElem? (i := 1) rfl) (inR_i (by omega) (by omega) (by omega) (by omega)))
  have w137 : Xi U20 904 151 = 0 := by rw [eU20]; exact Xi_same (by unfold rg; omega)
  have e9 := eU20
  refine y_aload_n rfl rfl ?_
  refine y_iconst rfl ?_
  refine y_pfi rfl rfl rfl rfl ?_
  obtain ⟨U21, eU21⟩ : ∃ T : sS, T = uI U20 904 150 (Int32.ofInt 0) := ⟨_, rfl⟩
  rw [← eU21]
  have hHU21 : RI U21 := by rw [eU21]; exact RI_w hHU20
  have hFU21 : FR md_mo_isCommand__p S U21 := by rw [eU21]; exact FR.wI hFU20 (mdf_i (r := (904, 905, 150, 151)) (List.mem_of_getElem? (i := 0) rfl) (inR_i (by omega) (by omega) (by omega) (by omega)))
  have w138 : Xi U21 904 150 = 0 := by rw [eU21]; exact Xi_same (by unfold rg; omega)
  have Z14 : Xi U21 904 151 = 0 ∧ Xi U21 904 150 = 0 := ⟨by rw [eU21, Xi_ne (by omega), e9]; exact Xi_same (by unfold rg; omega), by rw [eU21]; exact Xi_same (by unfold rg; omega)⟩
  refine y_iconst rfl ?_
  refine y_istore rfl rfl rfl ?_
  refine y_iconst rfl ?_
  refine y_istore rfl rfl rfl ?_
  have w139 : Xi U21 904 151 = Xi U20 904 151 := (show Xi U21 904 151 = Xi U20 904 151 from by rw [eU21]; exact Xi_ne (by omega))
  exact Pl_weak (C23 fu (by omega) U21 hHU21 hFU21 (from_) ((from_ + n)) (1) (1) (by omega) (by omega) (by omega) (by omega) (by omega) (by omega) (by omega) (by omega) (by omega) (by first | exact I175 | exact I267 | exact I49 | exact I69 | exact ⟨fun _ => tcr_0 Z14.1 Z14.2, fun q => absurd q (by omega)⟩)) (by omega) (And.intro rfl (And.intro rfl (And.intro rfl (And.intro rfl (And.intro rfl (True.intro))))))
end
