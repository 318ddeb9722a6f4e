section
/-! 1: the words of a command's text -/
theorem SMK_j {ks : List (Nat × Nat)} {S S1 : sS} (h : SMK ks S S1) (k : Nat) (e : inK ks k = true) (j : Nat) : Xj S1 k j = Xj S k j := by unfold Xj; rw [(h k j e).2.1]
def BYT (S : sS) (t : Nat) : Prop := ∀ j : Nat, -128 ≤ Xi S t j ∧ Xi S t j ≤ 127
theorem tp_F {l : List rec} {S T : sS} {t : Nat} (h : FR l S T) (e : kdis l [(902, 904)] = true) (ht : tp t) : Xi T t = Xi S t := by
  funext j
  rcases ht with q | q
  · rw [q]; exact (h.smk e).x 902 rfl j
  · rw [q]; exact (h.smk e).x 903 rfl j
theorem BYT_F {l : List rec} {S T : sS} {t : Nat} (h : FR l S T) (e : kdis l [(902, 904)] = true) (ht : tp t) (b : BYT S t) : BYT T t := fun j => by rw [tp_F h e ht]; exact b j
/-- the words in [ ]: where it ends (-1: not at all) and where they lie -/
noncomputable def gWk (B : Nat → Int) (kf : Int → Int → Prop) (to : Int) : Nat → Int → List (Int × Int) → Option (Int × List (Int × Int))
  | 0, _, _ => none
  | n + 1, i, l =>
    if to ≤ i then some (-1, l)
    else if B i.toNat = 93 then (if l = [] then some (-1, l) else some (i + 1, l))
    else if B i.toNat = 32 then gWk B kf to n (i + 1) l
    else @ite (Option (Int × List (Int × Int))) (we7 B to i = i ∨ 12 < we7 B to i - i ∨ ¬ kf i (we7 B to i)) (Classical.propDecidable _) (some (-1, l)) (gWk B kf to n (we7 B to i) (l ++ [(i, we7 B to i)]))
noncomputable def gWv (B : Nat → Int) (kf : Int → Int → Prop) (to i : Int) : Int × List (Int × Int) := (gWk B kf to 6000 i []).getD (-1, [])
theorem we7_b {B : Nat → Int} {e p : Int} : p ≤ we7 B e p ∧ (p ≤ e → we7 B e p ≤ e) := weF_le _ _
theorem gw_up {B : Nat → Int} {kf : Int → Int → Prop} {to : Int} : ∀ (n : Nat) (i : Int) (l : List (Int × Int)) (r : Int × List (Int × Int)), gWk B kf to n i l = some r → gWk B kf to (n + 1) i l = some r
  | 0, i, l, r, h => by cases h
  | n + 1, i, l, r, h => by
    rw [gWk] at h
    rw [gWk]
    by_cases a : to ≤ i
    · rw [if_pos a] at h ⊢; exact h
    rw [if_neg a] at h ⊢
    by_cases b : B i.toNat = 93
    · rw [if_pos b] at h ⊢; exact h
    rw [if_neg b] at h ⊢
    by_cases c : B i.toNat = 32
    · rw [if_pos c] at h ⊢; exact gw_up n _ _ r h
    rw [if_neg c] at h ⊢
    by_cases d : we7 B to i = i ∨ 12 < we7 B to i - i ∨ ¬ kf i (we7 B to i)
    · rw [if_pos d] at h ⊢; exact h
    rw [if_neg d] at h ⊢
    exact gw_up n _ _ r h
theorem gw_ups {B : Nat → Int} {kf : Int → Int → Prop} {to i : Int} {l : List (Int × Int)} {r : Int × List (Int × Int)} {n : Nat} (h : gWk B kf to n i l = some r) : ∀ m : Nat, gWk B kf to (n + m) i l = some r
  | 0 => h
  | m + 1 => gw_up (n + m) i l r (gw_ups h m)
theorem gw_end {B : Nat → Int} {kf : Int → Int → Prop} {to : Int} : ∀ (n : Nat) (i : Int) (l : List (Int × Int)), (to - i).toNat < n → ∃ r, gWk B kf to n i l = some r
  | 0, i, l, h => absurd h (Nat.not_lt_zero _)
  | n + 1, i, l, h => by
    rw [gWk]
    by_cases a : to ≤ i
    · rw [if_pos a]; exact ⟨_, rfl⟩
    rw [if_neg a]
    by_cases b : B i.toNat = 93
    · rw [if_pos b]
      by_cases c : l = []
      · rw [if_pos c]; exact ⟨_, rfl⟩
      · rw [if_neg c]; exact ⟨_, rfl⟩
    rw [if_neg b]
    by_cases c : B i.toNat = 32
    · rw [if_pos c]; exact gw_end n _ _ (by omega)
    rw [if_neg c]
    by_cases d : we7 B to i = i ∨ 12 < we7 B to i - i ∨ ¬ kf i (we7 B to i)
    · rw [if_pos d]; exact ⟨_, rfl⟩
    rw [if_neg d]
    have u := we7_b (B := B) (e := to) (p := i)
    exact gw_end n _ _ (by omega)
theorem gw_V {B : Nat → Int} {kf : Int → Int → Prop} {to i : Int} {r : Int × List (Int × Int)} {n : Nat} (h : gWk B kf to n i [] = some r) (hb : (to - i).toNat < 6000) : r = gWv B kf to i := by
  obtain ⟨y, e⟩ := gw_end (B := B) (kf := kf) (to := to) 6000 i [] hb
  unfold gWv
  have t := gw_ups h 6000
  have u := gw_ups e n
  rw [Nat.add_comm 6000 n, t] at u
  rw [e]
  injection u
def GWC (B : Nat → Int) (kf : Int → Int → Prop) (to a i : Int) (l : List (Int × Int)) : Prop := ∀ (n : Nat) (r : Int × List (Int × Int)), gWk B kf to n i l = some r → ∃ m, gWk B kf to m a [] = some r
theorem gwc_0 {B : Nat → Int} {kf : Int → Int → Prop} {to a : Int} : GWC B kf to a a [] := fun n _ h => ⟨n, h⟩
theorem gwc_v {B : Nat → Int} {kf : Int → Int → Prop} {to a i : Int} {l : List (Int × Int)} {r : Int × List (Int × Int)} (c : GWC B kf to a i l) (hb : (to - a).toNat < 6000) (h : gWk B kf to 1 i l = some r) : r = gWv B kf to a := by
  obtain ⟨m, e⟩ := c 1 r h
  exact gw_V e hb
theorem gwc_b {B : Nat → Int} {kf : Int → Int → Prop} {to a i : Int} {l : List (Int × Int)} (c : GWC B kf to a i l) (h0 : i < to) (h : B i.toNat = 32) : GWC B kf to a (i + 1) l := fun n r w => c (n + 1) r (by rw [gWk, if_neg (by omega), if_neg (by omega), if_pos h]; exact w)
theorem gwc_w {B : Nat → Int} {kf : Int → Int → Prop} {to a i e : Int} {l : List (Int × Int)} (c : GWC B kf to a i l) (h0 : i < to) (h : B i.toNat ≠ 93 ∧ B i.toNat ≠ 32) (he : e = we7 B to i) (h1 : e ≠ i ∧ e - i ≤ 12) (hk : kf i e) : GWC B kf to a e (l ++ [(i, e)]) := fun n r w => c (n + 1) r (by
  rw [gWk, if_neg (by omega), if_neg h.1, if_neg h.2, ← he, if_neg (fun q => by rcases q with q | q | q; exact h1.1 q; omega; exact q hk)]; exact w)
theorem gw_x {B : Nat → Int} {kf : Int → Int → Prop} {to i e : Int} {l : List (Int × Int)} (h0 : i < to) (h : B i.toNat ≠ 93 ∧ B i.toNat ≠ 32) (he : e = we7 B to i) (h1 : e = i ∨ 12 < e - i ∨ ¬ kf i e) : gWk B kf to 1 i l = some (-1, l) := by
  rw [gWk, if_neg (by omega), if_neg h.1, if_neg h.2, ← he, if_pos h1]
theorem gw_z {B : Nat → Int} {kf : Int → Int → Prop} {to i : Int} {l : List (Int × Int)} (h0 : to ≤ i) : gWk B kf to 1 i l = some (-1, l) := by rw [gWk, if_pos h0]
theorem gw_y {B : Nat → Int} {kf : Int → Int → Prop} {to i : Int} {l : List (Int × Int)} (h0 : i < to) (h : B i.toNat = 93) : gWk B kf to 1 i l = if l = [] then some (-1, l) else some (i + 1, l) := by rw [gWk, if_neg (by omega), if_pos h]
/-- what the class keeps of it -/
def kf7 (S : sS) (t : Nat) (a e : Int) : Prop := ky7 (Xj S 880) (c27 (Xi S t) a.toNat (e - a).toNat) 100 = 100
def GPR (S T : sS) (t : Nat) (l : List (Int × Int)) : Prop := Xi T 882 10 = l.length ∧ ∀ (j : Nat) (h : j < l.length), j < 3 → Xj T 888 j = c27 (Xi S t) l[j].1.toNat (l[j].2 - l[j].1).toNat
def GLC (S T : sS) (t : Nat) (to a i : Int) : Prop := ∃ l, GPR S T t l ∧ GWC (Xi S t) (kf7 S t) to a i l
def GPO (S T : sS) (t : Nat) (a to z : Int) : Prop := z = (gWv (Xi S t) (kf7 S t) to a).1 ∧ (z ≠ -1 → GPR S T t (gWv (Xi S t) (kf7 S t) to a).2)
theorem glc_0 {S T : sS} {t : Nat} {to a : Int} (h : Xi T 882 10 = 0) : GLC S T t to a a := ⟨[], ⟨h, fun j q => absurd q (Nat.not_lt_zero _)⟩, gwc_0⟩
theorem glc_b {S T : sS} {t : Nat} {to a i : Int} (c : GLC S T t to a i) (h0 : i < to) (h : Xi S t i.toNat = 32) : GLC S T t to a (i + 1) := by
  obtain ⟨l, g, k⟩ := c
  exact ⟨l, g, gwc_b k h0 h⟩
theorem glc_w {S T U : sS} {t : Nat} {to a i e w : Int} (c : GLC S T t to a i) (h0 : i < to) (h : Xi S t i.toNat ≠ 93 ∧ Xi S t i.toNat ≠ 32) (he : e = we7 (Xi S t) to i) (h1 : e ≠ i ∧ e - i ≤ 12) (hw : w = c27 (Xi S t) i.toNat (e - i).toNat) (hk : ky7 (Xj S 880) w 100 = 100) (u1 : Xi U 882 10 = Xi T 882 10 + 1) (u2 : Xi T 882 10 < 3 → Xj U 888 (Xi T 882 10).toNat = w) (u3 : ∀ j : Nat, (j : Int) < Xi T 882 10 → Xj U 888 j = Xj T 888 j) : GLC S U t to a e := by
  obtain ⟨l, g, k⟩ := c
  refine ⟨l ++ [(i, e)], ⟨by rw [u1, g.1, List.length_append]; rfl, fun j hj h3 => ?_⟩, gwc_w k h0 h he h1 (by unfold kf7; rw [← hw]; exact hk)⟩
  have gl := g.1
  by_cases q : j < l.length
  · rw [u3 j (by omega), g.2 j q h3, List.getElem_append_left q]
  · have hj2 : j = l.length := by rw [List.length_append] at hj; simp only [List.length_cons, List.length_nil] at hj; omega
    subst hj2
    have x := u2 (by omega)
    rw [show (Xi T 882 10).toNat = l.length by omega] at x
    rw [x, hw]
    simp only [List.getElem_append_right (Nat.le_refl _), Nat.sub_self, List.getElem_cons_zero]
theorem glc_z {S T : sS} {t : Nat} {to a i : Int} (c : GLC S T t to a i) (hb : (to - a).toNat < 6000) (h0 : to ≤ i) : GPO S T t a to (-1) := by
  obtain ⟨l, g, k⟩ := c
  have r := gwc_v k hb (gw_z h0)
  exact ⟨by rw [← r], fun q => absurd rfl q⟩
theorem glc_x {S T : sS} {t : Nat} {to a i e w : Int} (c : GLC S T t to a i) (hb : (to - a).toNat < 6000) (h0 : i < to) (h : Xi S t i.toNat ≠ 93 ∧ Xi S t i.toNat ≠ 32) (he : e = we7 (Xi S t) to i) (h1 : e = i ∨ 12 < e - i ∨ (e - i ≤ 12 ∧ w = c27 (Xi S t) i.toNat (e - i).toNat ∧ ky7 (Xj S 880) w 100 ≠ 100)) : GPO S T t a to (-1) := by
  obtain ⟨l, g, k⟩ := c
  have r := gwc_v k hb (gw_x h0 h he (by
    rcases h1 with q | q | q
    · exact Or.inl q
    · exact Or.inr (Or.inl q)
    · exact Or.inr (Or.inr (by unfold kf7; rw [← q.2.1]; exact q.2.2))))
  exact ⟨by rw [← r], fun q => absurd rfl q⟩
theorem glc_y {S T : sS} {t : Nat} {to a i z : Int} (c : GLC S T t to a i) (hb : (to - a).toNat < 6000) (h0 : i < to) (h : Xi S t i.toNat = 93) (hz : (0 < Xi T 882 10 ∧ z = i + 1) ∨ (Xi T 882 10 ≤ 0 ∧ z = -1)) : GPO S T t a to z := by
  obtain ⟨l, g, k⟩ := c
  have gl := g.1
  by_cases q : l = []
  · have e := gw_y (kf := kf7 S t) (l := l) h0 h
    rw [if_pos q] at e
    have r := gwc_v k hb e
    have : z = -1 := by rw [q] at gl; simp only [List.length_nil] at gl; omega
    exact ⟨by rw [← r]; exact this, fun w => absurd this w⟩
  · have e := gw_y (kf := kf7 S t) (l := l) h0 h
    rw [if_neg q] at e
    have r := gwc_v k hb e
    have p : 0 < l.length := List.length_pos_iff.mpr q
    exact ⟨by rw [← r]; show z = i + 1; omega, fun _ => by rw [← r]; exact g⟩
theorem glc_ws {S T P U : sS} {t : Nat} {to a i e w : Int} (c : GLC S T t to a i) (h0 : i < to) (h : Xi S t i.toNat ≠ 93 ∧ Xi S t i.toNat ≠ 32) (he : e = we7 (Xi S t) to i) (h1 : e ≠ i ∧ e - i ≤ 12) (hw : w = c27 (Xi S t) i.toNat (e - i).toNat) (hk : ky7 (Xj S 880) w 100 = 100) (hr : rgL w) (hb : 0 ≤ Xi T 882 10 ∧ Xi T 882 10 < 3) (e1 : P = uJ T 888 (Xi T 882 10).toNat (Int64.ofInt w)) (e2 : U = uI P 882 10 (Int32.ofInt (Xi T 882 10 + 1))) : GLC S U t to a e := by
  refine glc_w c h0 h he h1 hw hk (by rw [e2, Xi_same (by unfold rg; omega)]) (fun _ => by rw [e2, Xj_I, e1, Xj_same hr]) (fun j hj => by rw [e2, Xj_I, e1, Xj_ne (by omega)])
theorem glc_wk {S T U : sS} {t : Nat} {to a i e w : Int} (c : GLC S T t to a i) (h0 : i < to) (h : Xi S t i.toNat ≠ 93 ∧ Xi S t i.toNat ≠ 32) (he : e = we7 (Xi S t) to i) (h1 : e ≠ i ∧ e - i ≤ 12) (hw : w = c27 (Xi S t) i.toNat (e - i).toNat) (hk : ky7 (Xj S 880) w 100 = 100) (hb : 3 ≤ Xi T 882 10 ∧ Xi T 882 10 ≤ 6000) (e2 : U = uI T 882 10 (Int32.ofInt (Xi T 882 10 + 1))) : GLC S U t to a e := by
  refine glc_w c h0 h he h1 hw hk (by rw [e2, Xi_same (by unfold rg; omega)]) (fun q => absurd q (by omega)) (fun j hj => by rw [e2, Xj_I])
theorem gw_r {B : Nat → Int} {kf : Int → Int → Prop} {to : Int} : ∀ (n : Nat) (i : Int) (l : List (Int × Int)) (r : Int × List (Int × Int)), gWk B kf to n i l = some r → r.1 = -1 ∨ (i < r.1 ∧ r.1 ≤ to)
  | 0, i, l, r, h => by cases h
  | n + 1, i, l, r, h => by
    rw [gWk] at h
    by_cases a : to ≤ i
    · rw [if_pos a] at h; injection h with h; rw [← h]; exact Or.inl rfl
    rw [if_neg a] at h
    by_cases b : B i.toNat = 93
    · rw [if_pos b] at h
      by_cases c : l = []
      · rw [if_pos c] at h; injection h with h; rw [← h]; exact Or.inl rfl
      · rw [if_neg c] at h; injection h with h; rw [← h]; exact Or.inr ⟨by show i < i + 1; omega, by show i + 1 ≤ to; omega⟩
    rw [if_neg b] at h
    by_cases c : B i.toNat = 32
    · rw [if_pos c] at h; rcases gw_r n _ _ r h with q | q; exact Or.inl q; exact Or.inr ⟨by omega, q.2⟩
    rw [if_neg c] at h
    by_cases d : we7 B to i = i ∨ 12 < we7 B to i - i ∨ ¬ kf i (we7 B to i)
    · rw [if_pos d] at h; injection h with h; rw [← h]; exact Or.inl rfl
    rw [if_neg d] at h
    have u := we7_b (B := B) (e := to) (p := i)
    rcases gw_r n _ _ r h with q | q
    · exact Or.inl q
    · exact Or.inr ⟨by omega, q.2⟩
theorem gwv_r {B : Nat → Int} {kf : Int → Int → Prop} {to i : Int} (hb : (to - i).toNat < 6000) : (gWv B kf to i).1 = -1 ∨ (i < (gWv B kf to i).1 ∧ (gWv B kf to i).1 ≤ to) := by
  obtain ⟨y, e⟩ := gw_end (B := B) (kf := kf) (to := to) 6000 i [] hb
  have t := gw_r _ _ _ _ e
  unfold gWv
  rw [e]
  exact t
/-! the whole text -/
noncomputable def tWk (B : Nat → Int) (kf : Int → Int → Prop) (to : Int) : Nat → Int → List (Int × Int) → Int → List (Int × Int) → Option (Int × List (Int × Int) × Int × List (Int × Int))
  | 0, _, _, _, _ => none
  | n + 1, i, l, gi, g =>
    if to ≤ i then some (if l = [] then 0 else 1, l, gi, g)
    else if B i.toNat = 32 then tWk B kf to n (i + 1) l gi g
    else if l.length = 8 ∨ (B i.toNat = 91 ∧ gi ≠ -1) then some (0, l, gi, g)
    else if B i.toNat = 91 then
      (if (gWv B kf to (i + 1)).1 = -1 ∨ ((gWv B kf to (i + 1)).1 < to ∧ B (gWv B kf to (i + 1)).1.toNat ≠ 32) then some (0, l, gi, g)
       else tWk B kf to n (gWv B kf to (i + 1)).1 (l ++ [(-1, -1)]) l.length (gWv B kf to (i + 1)).2)
    else if we7 B to i = i ∨ 12 < we7 B to i - i ∨ (we7 B to i < to ∧ B (we7 B to i).toNat ≠ 32) then some (0, l, gi, g)
    else tWk B kf to n (we7 B to i) (l ++ [(i, we7 B to i)]) gi g
noncomputable def tWv (B : Nat → Int) (kf : Int → Int → Prop) (to i : Int) : Int × List (Int × Int) × Int × List (Int × Int) := (tWk B kf to 6000 i [] (-1) []).getD (0, [], -1, [])
theorem tw_up {B : Nat → Int} {kf : Int → Int → Prop} {to : Int} : ∀ (n : Nat) (i : Int) (l : List (Int × Int)) (gi : Int) (g : List (Int × Int)) (r : Int × List (Int × Int) × Int × List (Int × Int)), tWk B kf to n i l gi g = some r → tWk B kf to (n + 1) i l gi g = some r
  | 0, i, l, gi, g, r, h => by cases h
  | n + 1, i, l, gi, g, r, h => by
    rw [tWk] at h
    rw [tWk]
    by_cases a : to ≤ i
    · rw [if_pos a] at h ⊢; exact h
    rw [if_neg a] at h ⊢
    by_cases b : B i.toNat = 32
    · rw [if_pos b] at h ⊢; exact tw_up n _ _ _ _ r h
    rw [if_neg b] at h ⊢
    by_cases c : l.length = 8 ∨ (B i.toNat = 91 ∧ gi ≠ -1)
    · rw [if_pos c] at h ⊢; exact h
    rw [if_neg c] at h ⊢
    by_cases d : B i.toNat = 91
    · rw [if_pos d] at h ⊢
      by_cases e : (gWv B kf to (i + 1)).1 = -1 ∨ ((gWv B kf to (i + 1)).1 < to ∧ B (gWv B kf to (i + 1)).1.toNat ≠ 32)
      · rw [if_pos e] at h ⊢; exact h
      · rw [if_neg e] at h ⊢; exact tw_up n _ _ _ _ r h
    rw [if_neg d] at h ⊢
    by_cases e : we7 B to i = i ∨ 12 < we7 B to i - i ∨ (we7 B to i < to ∧ B (we7 B to i).toNat ≠ 32)
    · rw [if_pos e] at h ⊢; exact h
    · rw [if_neg e] at h ⊢; exact tw_up n _ _ _ _ r h
theorem tw_ups {B : Nat → Int} {kf : Int → Int → Prop} {to i gi : Int} {l g : List (Int × Int)} {r : Int × List (Int × Int) × Int × List (Int × Int)} {n : Nat} (h : tWk B kf to n i l gi g = some r) : ∀ m : Nat, tWk B kf to (n + m) i l gi g = some r
  | 0 => h
  | m + 1 => tw_up (n + m) i l gi g r (tw_ups h m)
theorem twk_e {B : Nat → Int} {kf : Int → Int → Prop} {to : Int} (hb : to < 5999) : ∀ (n : Nat) (i : Int) (l : List (Int × Int)) (gi : Int) (g : List (Int × Int)), 0 ≤ i → (to - i).toNat < n → ∃ r, tWk B kf to n i l gi g = some r
  | 0, i, l, gi, g, h0, h => absurd h (Nat.not_lt_zero _)
  | n + 1, i, l, gi, g, h0, h => by
    rw [tWk]
    by_cases a : to ≤ i
    · rw [if_pos a]; exact ⟨_, rfl⟩
    rw [if_neg a]
    by_cases b : B i.toNat = 32
    · rw [if_pos b]; exact twk_e hb n _ _ _ _ (by omega) (by omega)
    rw [if_neg b]
    by_cases c : l.length = 8 ∨ (B i.toNat = 91 ∧ gi ≠ -1)
    · rw [if_pos c]; exact ⟨_, rfl⟩
    rw [if_neg c]
    by_cases d : B i.toNat = 91
    · rw [if_pos d]
      by_cases e : (gWv B kf to (i + 1)).1 = -1 ∨ ((gWv B kf to (i + 1)).1 < to ∧ B (gWv B kf to (i + 1)).1.toNat ≠ 32)
      · rw [if_pos e]; exact ⟨_, rfl⟩
      · rw [if_neg e]
        have u := gwv_r (B := B) (kf := kf) (to := to) (i := i + 1) (by omega)
        exact twk_e hb n _ _ _ _ (by omega) (by omega)
    rw [if_neg d]
    by_cases e : we7 B to i = i ∨ 12 < we7 B to i - i ∨ (we7 B to i < to ∧ B (we7 B to i).toNat ≠ 32)
    · rw [if_pos e]; exact ⟨_, rfl⟩
    · rw [if_neg e]
      have u := we7_b (B := B) (e := to) (p := i)
      exact twk_e hb n _ _ _ _ (by omega) (by omega)
theorem tw_V {B : Nat → Int} {kf : Int → Int → Prop} {to i : Int} {r : Int × List (Int × Int) × Int × List (Int × Int)} {n : Nat} (h : tWk B kf to n i [] (-1) [] = some r) (hb : 0 ≤ i ∧ to < 5999) : r = tWv B kf to i := by
  obtain ⟨y, e⟩ := twk_e (B := B) (kf := kf) hb.2 6000 i [] (-1) [] hb.1 (by omega)
  unfold tWv
  have t := tw_ups h 6000
  have u := tw_ups e n
  rw [Nat.add_comm 6000 n, t] at u
  rw [e]
  injection u
def TWC (B : Nat → Int) (kf : Int → Int → Prop) (to a i : Int) (l : List (Int × Int)) (gi : Int) (g : List (Int × Int)) : Prop := ∀ (n : Nat) (r : Int × List (Int × Int) × Int × List (Int × Int)), tWk B kf to n i l gi g = some r → ∃ m, tWk B kf to m a [] (-1) [] = some r
theorem twc_v {B : Nat → Int} {kf : Int → Int → Prop} {to a i gi : Int} {l g : List (Int × Int)} {r : Int × List (Int × Int) × Int × List (Int × Int)} (c : TWC B kf to a i l gi g) (hb : 0 ≤ a ∧ to < 5999) (h : tWk B kf to 1 i l gi g = some r) : r = tWv B kf to a := by
  obtain ⟨m, e⟩ := c 1 r h
  exact tw_V e hb
/-- what the class keeps of it -/
def TXR (S T : sS) (t : Nat) (l : List (Int × Int)) (gi : Int) (g : List (Int × Int)) : Prop :=
  Xi T 885 (Xi S 882 3).toNat = gi ∧ Xi T 886 (Xi S 882 3).toNat = -1 ∧ (gi = -1 ∨ (0 ≤ gi ∧ gi < l.length)) ∧ l.length ≤ 8 ∧ (gi ≠ -1 → GPR S T t g) ∧
  ∀ (j : Nat) (h : j < l.length), (j : Int) ≠ gi → Xj T 887 (Xi S 882 3 * 8 + j).toNat = c27 (Xi S t) l[j].1.toNat (l[j].2 - l[j].1).toNat
def TLC (S T : sS) (t : Nat) (to a i n : Int) : Prop := ∃ l gi g, n = l.length ∧ TXR S T t l gi g ∧ TWC (Xi S t) (kf7 S t) to a i l gi g
def TXO (S T : sS) (t : Nat) (a to z : Int) : Prop := z = (tWv (Xi S t) (kf7 S t) to a).1 ∧ (z = 1 → Xi T 884 (Xi S 882 3).toNat = (tWv (Xi S t) (kf7 S t) to a).2.1.length ∧ TXR S T t (tWv (Xi S t) (kf7 S t) to a).2.1 (tWv (Xi S t) (kf7 S t) to a).2.2.1 (tWv (Xi S t) (kf7 S t) to a).2.2.2)
theorem tlc_0 {S T : sS} {t : Nat} {to a : Int} (h : Xi T 885 (Xi S 882 3).toNat = -1) (h2 : Xi T 886 (Xi S 882 3).toNat = -1) : TLC S T t to a a 0 := ⟨[], -1, [], rfl, ⟨h, h2, Or.inl rfl, by decide, fun q => absurd rfl q, fun j q => absurd q (Nat.not_lt_zero _)⟩, fun n _ w => ⟨n, w⟩⟩
theorem tlc_b {S T : sS} {t : Nat} {to a i n : Int} (c : TLC S T t to a i n) (h0 : i < to) (h : Xi S t i.toNat = 32) : TLC S T t to a (i + 1) n := by
  obtain ⟨l, gi, g, e, x, k⟩ := c
  exact ⟨l, gi, g, e, x, fun m r w => k (m + 1) r (by rw [tWk, if_neg (by omega), if_pos h]; exact w)⟩
theorem tlc_x {S T U : sS} {t : Nat} {to a i n : Int} (c : TLC S T t to a i n) (hb : 0 ≤ a ∧ to < 5999) (h0 : i < to) (h : Xi S t i.toNat ≠ 32) (q : n = 8 ∨ (Xi S t i.toNat = 91 ∧ Xi T 885 (Xi S 882 3).toNat ≠ -1)) : TXO S U t a to 0 := by
  obtain ⟨l, gi, g, e, x, k⟩ := c
  have r := twc_v k hb (by rw [tWk, if_neg (by omega), if_neg h, if_pos (by rcases q with q | q; exact Or.inl (by omega); exact Or.inr ⟨q.1, by rw [← x.1]; exact q.2⟩)])
  exact ⟨by rw [← r], fun w => absurd w (by decide)⟩
theorem tlc_gx {S T U : sS} {t : Nat} {to a i n z : Int} (c : TLC S T t to a i n) (hb : 0 ≤ a ∧ to < 5999) (h0 : i < to) (h : Xi S t i.toNat = 91) (hn : n ≠ 8) (hg : Xi T 885 (Xi S 882 3).toNat = -1) (hz : z = (gWv (Xi S t) (kf7 S t) to (i + 1)).1) (q : z = -1 ∨ (z < to ∧ Xi S t z.toNat ≠ 32)) : TXO S U t a to 0 := by
  obtain ⟨l, gi, g, e, x, k⟩ := c
  have r := twc_v k hb (by rw [tWk, if_neg (by omega), if_neg (by omega), if_neg (fun w => by rcases w with w | w; omega; exact w.2 (by rw [← x.1]; exact hg)), if_pos h, ← hz, if_pos q])
  exact ⟨by rw [← r], fun w => absurd w (by decide)⟩
theorem tlc_wx {S T U : sS} {t : Nat} {to a i n e : Int} (c : TLC S T t to a i n) (hb : 0 ≤ a ∧ to < 5999) (h0 : i < to) (h : Xi S t i.toNat ≠ 91 ∧ Xi S t i.toNat ≠ 32) (hn : n ≠ 8) (he : e = we7 (Xi S t) to i) (q : e = i ∨ 12 < e - i ∨ (e < to ∧ Xi S t e.toNat ≠ 32)) : TXO S U t a to 0 := by
  obtain ⟨l, gi, g, e1, x, k⟩ := c
  have r := twc_v k hb (by rw [tWk, if_neg (by omega), if_neg h.2, if_neg (fun w => by rcases w with w | w; omega; exact h.1 w.1), if_neg h.1, ← he, if_pos q])
  exact ⟨by rw [← r], fun w => absurd w (by decide)⟩
theorem GPR_J {S T U : sS} {t : Nat} {g : List (Int × Int)} (h : GPR S T t g) (h1 : Xi U 882 10 = Xi T 882 10) (h2 : ∀ j, Xj U 888 j = Xj T 888 j) : GPR S U t g := ⟨h1.trans h.1, fun j a b => (h2 j).trans (h.2 j a b)⟩
theorem tlc_w {S T U : sS} {t : Nat} {to a i n e w : Int} (c : TLC S T t to a i n) (h3 : 0 ≤ Xi S 882 3) (h0 : i < to) (h : Xi S t i.toNat ≠ 91 ∧ Xi S t i.toNat ≠ 32) (hn : n ≠ 8) (he : e = we7 (Xi S t) to i) (q : ¬ (e = i ∨ 12 < e - i ∨ (e < to ∧ Xi S t e.toNat ≠ 32))) (hw : w = c27 (Xi S t) i.toNat (e - i).toNat) (hr : rgL w) (eU : U = uJ T 887 (Xi S 882 3 * 8 + n).toNat (Int64.ofInt w)) : TLC S U t to a e (n + 1) := by
  obtain ⟨l, gi, g, e1, x, k⟩ := c
  refine ⟨l ++ [(i, e)], gi, g, by rw [List.length_append]; simp only [List.length_cons, List.length_nil]; omega, ⟨by rw [eU]; exact x.1, by rw [eU]; exact x.2.1, ?_, ?_, fun p => GPR_J (x.2.2.2.2.1 p) (by rw [eU]; rfl) (fun j => by rw [eU, Xj_ne (by omega)]), fun j hj hg => ?_⟩, fun m r y => k (m + 1) r ?_⟩
  · rcases x.2.2.1 with p | p
    · exact Or.inl p
    · exact Or.inr ⟨p.1, by rw [List.length_append]; omega⟩
  · rw [List.length_append]; simp only [List.length_cons, List.length_nil]; have := x.2.2.2.1; omega
  · by_cases p : j < l.length
    · rw [eU, Xj_ne (by omega), x.2.2.2.2.2 j p hg, List.getElem_append_left p]
    · have hj2 : j = l.length := by rw [List.length_append] at hj; simp only [List.length_cons, List.length_nil] at hj; omega
      subst hj2
      rw [eU, show (Xi S 882 3 * 8 + ((l.length : Nat) : Int)).toNat = (Xi S 882 3 * 8 + n).toNat by omega, Xj_same hr, hw]
      simp only [List.getElem_append_right (Nat.le_refl _), Nat.sub_self, List.getElem_cons_zero]
  · rw [tWk, if_neg (by omega), if_neg h.2, if_neg (fun w => by rcases w with w | w; omega; exact h.1 w.1), if_neg h.1, ← he, if_neg q]; exact y
theorem tlc_g {l1 : List rec} {S T P U : sS} {t : Nat} {to a i n z : Int} (c : TLC S T t to a i n) (h3 : 0 ≤ Xi S 882 3) (h0 : i < to) (h : Xi S t i.toNat = 91) (hn : n ≠ 8) (hr : rg n) (hg : Xi T 885 (Xi S 882 3).toNat = -1) (eP : P = uI T 885 (Xi S 882 3).toNat (Int32.ofInt n)) (F : FR l1 P U) (f1 : kdis l1 [(885, 888)] = true) (o : GPO S U t (i + 1) to z) (q : ¬ (z = -1 ∨ (z < to ∧ Xi S t z.toNat ≠ 32))) : TLC S U t to a z (n + 1) := by
  obtain ⟨l, gi, g, e1, x, k⟩ := c
  have K := F.smk f1
  refine ⟨l ++ [(-1, -1)], n, (gWv (Xi S t) (kf7 S t) to (i + 1)).2, by rw [List.length_append]; simp only [List.length_cons, List.length_nil]; omega, ⟨?_, ?_, ?_, ?_, fun _ => o.2 (fun w => q (Or.inl w)), fun j hj hg => ?_⟩, fun m r y => k (m + 1) r ?_⟩
  · rw [K.x 885 rfl, eP, Xi_same hr]
  · rw [K.x 886 rfl, eP, Xi_ne (by omega)]; exact x.2.1
  · exact Or.inr ⟨by omega, by rw [List.length_append]; simp only [List.length_cons, List.length_nil]; omega⟩
  · rw [List.length_append]; simp only [List.length_cons, List.length_nil]; have := x.2.2.2.1; omega
  · have p : j < l.length := by rw [List.length_append] at hj; simp only [List.length_cons, List.length_nil] at hj; omega
    rw [SMK_j K 887 rfl, eP, Xj_I, x.2.2.2.2.2 j p (by have := x.2.2.1; have w := x.1; omega), List.getElem_append_left p]
  · have gz := o.1
    rw [tWk, if_neg (by omega), if_neg (by omega), if_neg (fun w => by rcases w with w | w; omega; exact w.2 (by rw [← x.1]; exact hg)), if_pos h, ← gz, if_neg q, ← e1]; exact y
theorem tlc_z {S T U : sS} {t : Nat} {to a i n z : Int} (c : TLC S T t to a i n) (h3 : 0 ≤ Xi S 882 3) (hb : 0 ≤ a ∧ to < 5999) (h0 : to ≤ i) (eU : U = uI T 884 (Xi S 882 3).toNat (Int32.ofInt n)) (hr : rg n) (hz : (0 < n ∧ z = 1) ∨ (n ≤ 0 ∧ z = 0)) : TXO S U t a to z := by
  obtain ⟨l, gi, g, e1, x, k⟩ := c
  have r := twc_v k hb (by rw [tWk, if_pos h0])
  have hzz : z = if l = [] then 0 else 1 := by
    by_cases p : l = []
    · rw [if_pos p]; rw [p] at e1; simp only [List.length_nil] at e1; omega
    · rw [if_neg p]; have := List.length_pos_iff.mpr p; omega
  refine ⟨by rw [← r]; exact hzz, fun _ => ?_⟩
  rw [← r]
  exact ⟨by rw [eU, Xi_same hr]; exact e1, by rw [eU]; exact ⟨(Xi_ne (by omega)).trans x.1, (Xi_ne (by omega)).trans x.2.1, x.2.2.1, x.2.2.2.1, fun p => GPR_J (x.2.2.2.2.1 p) (Xi_ne (by omega)) (fun j => rfl), fun j hj hg => x.2.2.2.2.2 j hj hg⟩⟩
theorem gpo_F {l : List rec} {S P U : sS} {t : Nat} {a to z : Int} (h : FR l S P) (e : kdis l [(902, 904)] = true) (e2 : kdis l [(880, 881)] = true) (ht : tp t) (o : GPO P U t a to z) : GPO S U t a to z := by
  have x := tp_F h e ht
  have y : Xj P 880 = Xj S 880 := funext (fun j => SMK_j (h.smk e2) 880 rfl j)
  have kk : kf7 P t = kf7 S t := by funext i j; unfold kf7; rw [x, y]
  unfold GPO GPR at o ⊢
  rw [x, kk] at o
  exact o

abbrev Q_rs_letterOf__p (S : sS) (b : Int) : pst := fun r S1 => S = S1 ∧ (∃ z : Int, r = some (iv z) ∧ (-2147483648 ≤ z ∧ z ≤ 2147483647) ∧ (z = lt7 b))
set_option maxRecDepth 100000 in
theorem t_rs_letterOf__p {S : sS} (hH : RI S) (b : Int) (hb : -128 ≤ b ∧ b ≤ 127) (d : Nat) : Mp lay0 (d + 1) m_rs_letterOf [iv b] S (Q_rs_letterOf__p S b) := by
  refine Mp_R rfl rfl (fun fu => ?_)
  refine y_iload_n rfl rfl ?_
  refine y_bipush rfl rfl ?_
  refine y_iorF rfl ?_
  have w1 : -2147483648 ≤ (iorF b 32) ∧ (iorF b 32) ≤ 2147483647 := iorF_rg
  have n3 : 0 ≤ b → 0 ≤ iorF b 32 := fun q => iorF_nn (by unfold rg; omega) (by unfold rg; omega) q (by omega)
  refine y_bipush rfl rfl ?_
  refine y_isub rfl ?_
  refine y_iconst rfl ?_
  refine y_iadd rfl ?_
  refine y_istore_n rfl rfl rfl ?_
  refine y_iload_n rfl rfl ?_
  refine y_if_le rfl rfl (by unfold rg; omega) (fun w2 => ?_) (fun w3 => ?_)
  · refine y_iconst rfl ?_
    refine y_ireturn rfl rfl ?_
    exact ⟨rfl, _, rfl, ⟨by omega, by omega⟩, (by first | exact lt7_y hb (by omega) (by omega) (by omega) | exact lt7_n hb (fun _ _ _ => by omega))⟩
  · refine y_iload_n rfl rfl ?_
    refine y_iconst rfl ?_
    refine y_icmp_lt rfl rfl (by unfold rg; omega) (by unfold rg; omega) (fun w4 => ?_) (fun w5 => ?_)
    · refine y_iconst rfl ?_
      refine y_ireturn rfl rfl ?_
      exact ⟨rfl, _, rfl, ⟨by omega, by omega⟩, (by first | exact lt7_y hb (by omega) (by omega) (by omega) | exact lt7_n hb (fun _ _ _ => by omega))⟩
    · refine y_iload_n rfl rfl ?_
      refine y_bipush rfl rfl ?_
      refine y_icmp_gt rfl rfl (by unfold rg; omega) (by unfold rg; omega) (fun w6 => ?_) (fun w7 => ?_)
      · refine y_iconst rfl ?_
        refine y_ireturn rfl rfl ?_
        exact ⟨rfl, _, rfl, ⟨by omega, by omega⟩, (by first | exact lt7_y hb (by omega) (by omega) (by omega) | exact lt7_n hb (fun _ _ _ => by omega))⟩
      · refine y_iload_n rfl rfl ?_
        refine y_goto rfl rfl ?_
        refine y_ireturn rfl rfl ?_
        exact ⟨rfl, _, rfl, ⟨by omega, by omega⟩, (by first | exact lt7_y hb (by omega) (by omega) (by omega) | exact lt7_n hb (fun _ _ _ => by omega))⟩
abbrev Q_to_keyOf__p (S : sS) (code : Int) : pst := fun r S1 => S = S1 ∧ (∃ z : Int, r = some (iv z) ∧ (-2147483648 ≤ z ∧ z ≤ 2147483647) ∧ (z = ky7 (Xj S 880) code 100))
set_option maxRecDepth 100000 in
theorem t_to_keyOf__p {S : sS} (hH : RI S) (code : Int) (hw : rgL code) (d : Nat) : Mp lay0 (d + 1) m_to_keyOf [.ref 876, jw code] S (Q_to_keyOf__p S code) := by
  refine Mp_R rfl rfl (fun fu => ?_)
  have hw2 : -9223372036854775808 ≤ code ∧ code < 9223372036854775808 := hw
  have C2 : ∀ (n2 : Nat) (_ : n2 ≤ fu) (v3 : Int), (0 ≤ v3 ∧ v3 ≤ 55) → (0 ≤ v3 ∧ v3 ≤ 55) → (ky7 (Xj S 880) code 100 = kyF (Xj S 880) code 100 (55 - v3).toNat v3) → Pl n2 lay0 (d + 0) m_to_keyOf 2 [(0, .ref 876), (1, jw code), (3, iv v3)] [] S (Q_to_keyOf__p S code) := by
    intro n2
    induction n2 with
    | zero => intros; exact Pl_0
    | succ n2 ih2 =>
      intro hm2 v3 w1 w2 k2
      refine ys_iload_n rfl rfl ?_
      refine y_bipush rfl rfl ?_
      refine y_icmp_ge rfl rfl (by unfold rg; omega) (by unfold rg; omega) (fun w3 => ?_) (fun w4 => ?_)
      · refine y_bipush rfl rfl ?_
        refine y_ireturn rfl rfl ?_
        exact ⟨rfl, _, rfl, ⟨by omega, by omega⟩, (by first | exact (k2.trans (kyF_h (by omega) (by omega))).symm | exact (k2.trans (kyF_e (by omega))).symm)⟩
      · refine y_aload_n rfl rfl ?_
        refine y_gfr rfl rfl rfl rfl rfl (hH.r 876 3 880 rfl) ?_
        refine y_iload_n rfl rfl ?_
        refine y_laloadP (n := 55) rfl rfl (by unfold rg; omega) (fun w5 w6 => ?_)
        have w7 : -9223372036854775808 ≤ (Xj S 880 ((v3).toNat)) ∧ (Xj S 880 ((v3).toNat)) < 9223372036854775808 := Xj_rg
        refine y_lload_n rfl rfl ?_
        refine y_lcmp rfl (by unfold rgL; omega) (by unfold rgL; omega) (fun c8 w8 w8a w8b w8c => ?_)
        refine y_if_ne rfl rfl (by unfold rg; omega) (fun w9 => ?_) (fun w10 => ?_)
        · refine y_iinc rfl rfl rfl rfl ?_
          refine y_goto rfl rfl ?_
          exact Pl_weak (ih2 (by omega) ((v3 + 1)) (by omega) (by omega) (by first | rfl | exact k2.trans (kyF_s (by omega) (by omega)))) (by omega) (And.intro rfl (And.intro rfl (And.intro rfl (True.intro))))
        · refine y_iload_n rfl rfl ?_
          refine y_ireturn rfl rfl ?_
          exact ⟨rfl, _, rfl, ⟨by omega, by omega⟩, (by first | exact (k2.trans (kyF_h (by omega) (by omega))).symm | exact (k2.trans (kyF_e (by omega))).symm)⟩
  refine y_iconst rfl ?_
  refine y_istore_n rfl rfl rfl ?_
  exact Pl_weak (C2 fu (by omega) (0) (by omega) (by omega) (by first | rfl | exact k2.trans (kyF_s (by omega) (by omega)))) (by omega) (And.intro rfl (And.intro rfl (And.intro rfl (True.intro))))
abbrev Q_co_wordEnd__p (S : sS) (t : Nat) (from_ : Int) (to : Int) : pst := fun r S1 => S = S1 ∧ (∃ z : Int, r = some (iv z) ∧ (-2147483648 ≤ z ∧ z ≤ 2147483647) ∧ (z = we7 (Xi S t) to from_) ∧ (from_ ≤ z ∧ (z ≤ to ∨ z = from_)))
set_option maxRecDepth 100000 in
theorem t_co_wordEnd__p {S : sS} (hH : RI S) (t : Nat) (from_ : Int) (to : Int) (ht : tp t) (hfrom_ : 0 ≤ from_ ∧ from_ ≤ 5000) (hto : 0 ≤ to ∧ to ≤ 5000) (hby : BYT S t) (d : Nat) : Mp lay0 (d + 2) m_co_wordEnd [.ref t, iv from_, iv to] S (Q_co_wordEnd__p S t from_ to) := by
  refine Mp_R rfl rfl (fun fu => ?_)
  have C2 : ∀ (n2 : Nat) (_ : n2 ≤ fu) (v3 : Int), (0 ≤ v3 ∧ v3 ≤ 5000) → (from_ ≤ v3 ∧ (v3 ≤ to ∨ v3 = from_)) → (we7 (Xi S t) to from_ = we7 (Xi S t) to v3) → Pl n2 lay0 (d + 1) m_co_wordEnd 2 [(0, .ref t), (2, iv to), (3, iv v3)] [] S (Q_co_wordEnd__p S t from_ to) := by
    intro n2
    induction n2 with
    | zero => intros; exact Pl_0
    | succ n2 ih2 =>
      intro hm2 v3 w1 w2 w2
      refine ys_iload_n rfl rfl ?_
      refine y_iload_n rfl rfl ?_
      refine y_icmp_ge rfl rfl (by unfold rg; omega) (by unfold rg; omega) (fun w3 => ?_) (fun w4 => ?_)
      · refine y_iload_n rfl rfl ?_
        refine y_ireturn rfl rfl ?_
        exact ⟨rfl, _, rfl, ⟨by omega, by omega⟩, (by first | exact (w2.trans (we7_e (by omega))).symm | exact (w2.trans (we7_n (by omega))).symm), (by omega)⟩
      · refine y_aload_n rfl rfl ?_
        refine y_iload_n rfl rfl ?_
        refine y_baloadP (n := 5000) rfl (tp_sv (by assumption)) (lay_tp (by assumption)) (by decide) (by unfold rg; omega) (fun w5 w6 => ?_)
        have w7 : -2147483648 ≤ (Xi S t ((v3).toNat)) ∧ (Xi S t ((v3).toNat)) ≤ 2147483647 := Xi_rgI
        have b9 := hby (v3).toNat
        refine y_callS rfl rfl (by decide) rfl (t_rs_letterOf__p hH (Xi S t ((v3).toNat)) ⟨by omega, by omega⟩ _) ?_
        rintro _ _ ⟨rfl, z9, rfl, w9, w8⟩
        show Pl _ _ _ _ _ _ [iv z9] _ _
        have r10 := lt7_r (Xi S t (v3).toNat)
        refine y_if_le rfl rfl (by unfold rg; omega) (fun w10 => ?_) (fun w11 => ?_)
        · refine y_iload_n rfl rfl ?_
          refine y_ireturn rfl rfl ?_
          exact ⟨rfl, _, rfl, ⟨by omega, by omega⟩, (by first | exact (w2.trans (we7_e (by omega))).symm | exact (w2.trans (we7_n (by omega))).symm), (by omega)⟩
        · refine y_iinc rfl rfl rfl rfl ?_
          refine y_goto rfl rfl ?_
          exact Pl_weak (ih2 (by omega) ((v3 + 1)) (by omega) (by omega) (by first | rfl | exact w2.trans (we7_s (by omega) (by omega)))) (by omega) (And.intro rfl (And.intro rfl (And.intro rfl (True.intro))))
  refine y_iload_n rfl rfl ?_
  refine y_istore_n rfl rfl rfl ?_
  exact Pl_weak (C2 fu (by omega) (from_) (by omega) (by omega) (by first | rfl | exact w2.trans (we7_s (by omega) (by omega)))) (by omega) (And.intro rfl (And.intro rfl (And.intro rfl (True.intro))))
abbrev Q_co_codeOf__p (S : sS) (t : Nat) (from_ : Int) (to : Int) : pst := fun r S1 => S = S1 ∧ (∃ z : Int, r = some (jw z) ∧ (z = c27 (Xi S t) from_.toNat (m12 (to - from_))) ∧ (rgL z))
set_option maxRecDepth 100000 in
theorem t_co_codeOf__p {S : sS} (hH : RI S) (t : Nat) (from_ : Int) (to : Int) (ht : tp t) (hfrom_ : 0 ≤ from_ ∧ from_ ≤ 5000) (hto : 0 ≤ to ∧ to ≤ 5000) (hby : BYT S t) (hft : from_ ≤ to) (d : Nat) : Mp lay0 (d + 2) m_co_codeOf [.ref t, iv from_, iv to] S (Q_co_codeOf__p S t from_ to) := by
  refine Mp_R rfl rfl (fun fu => ?_)
  have C5 : ∀ (n5 : Nat) (_ : n5 ≤ fu) (v3 : Int) (v5 : Int), (0 ≤ v5 ∧ v5 ≤ 5000) → (from_ ≤ v5 ∧ v5 ≤ to) → (v3 = c27 (Xi S t) from_.toNat (m12 (v5 - from_))) → Pl n5 lay0 (d + 1) m_co_codeOf 5 [(0, .ref t), (1, iv from_), (2, iv to), (3, jw v3), (5, iv v5)] [] S (Q_co_codeOf__p S t from_ to) := by
    intro n5
    induction n5 with
    | zero => intros; exact Pl_0
    | succ n5 ih5 =>
      intro hm5 v3 v5 w1 w2 h5
      refine ys_iload rfl rfl ?_
      refine y_iload_n rfl rfl ?_
      refine y_icmp_ge rfl rfl (by unfold rg; omega) (by unfold rg; omega) (fun w3 => ?_) (fun w4 => ?_)
      · refine y_lload_n rfl rfl ?_
        refine y_lreturn rfl rfl ?_
        exact ⟨rfl, _, rfl, (by first | (rw [h5, show v5 = to by omega]) | (rw [h5, show m12 (v5 - from_) = m12 (to - from_) by unfold m12; rw [if_neg (by omega), if_neg (by omega)]])), (by rw [h5]; exact c27_g (m12_le _))⟩
      · refine y_iload rfl rfl ?_
        refine y_iload_n rfl rfl ?_
        refine y_isub rfl ?_
        refine y_bipush rfl rfl ?_
        refine y_icmp_ge rfl rfl (by unfold rg; omega) (by unfold rg; omega) (fun w5 => ?_) (fun w6 => ?_)
        · refine y_lload_n rfl rfl ?_
          refine y_lreturn rfl rfl ?_
          exact ⟨rfl, _, rfl, (by first | (rw [h5, show v5 = to by omega]) | (rw [h5, show m12 (v5 - from_) = m12 (to - from_) by unfold m12; rw [if_neg (by omega), if_neg (by omega)]])), (by rw [h5]; exact c27_g (m12_le _))⟩
        · refine y_lload_n rfl rfl ?_
          refine y_ldc2 (z := 27) rfl rfl ?_
          refine y_lmul rfl ?_
          refine y_aload_n rfl rfl ?_
          refine y_iload rfl rfl ?_
          refine y_baloadP (n := 5000) rfl (tp_sv (by assumption)) (lay_tp (by assumption)) (by decide) (by unfold rg; omega) (fun w7 w8 => ?_)
          have w9 : -2147483648 ≤ (Xi S t ((v5).toNat)) ∧ (Xi S t ((v5).toNat)) ≤ 2147483647 := Xi_rgI
          have b28 := hby (v5).toNat
          refine y_callS rfl rfl (by decide) rfl (t_rs_letterOf__p hH (Xi S t ((v5).toNat)) ⟨by omega, by omega⟩ _) ?_
          rintro _ _ ⟨rfl, z10, rfl, w10, q29⟩
          show Pl _ _ _ _ _ _ [iv z10, jw (v3 * 27)] _ _
          have r29 := lt7_r (Xi S t (v5).toNat)
          have g29 : 0 ≤ v3 ∧ v3 < 27 ^ (m12 (v5 - from_)) := by rw [h5]; exact c27_r _
          have p29 : (27 : Int) ^ (m12 (v5 - from_)) ≤ 4052555153018976267 := pw27 (by have := m12_le (v5 - from_); omega)
          refine y_i2l rfl (by unfold rg; omega) ?_
          refine y_ladd rfl ?_
          refine y_lstore_n rfl rfl rfl rfl ?_
          refine y_iinc rfl rfl rfl rfl ?_
          refine y_goto rfl rfl ?_
          exact Pl_weak (ih5 (by omega) (((v3 * 27) + z10)) ((v5 + 1)) (by omega) (by omega) (by first | exact c27_0 | exact c27_m q29 (by omega) (by omega) (by omega) h5)) (by omega) (And.intro rfl (And.intro rfl (And.intro rfl (And.intro rfl (And.intro rfl (True.intro))))))
  refine y_lconst (z := 0) rfl rfl ?_
  refine y_lstore_n rfl rfl rfl rfl ?_
  refine y_iload_n rfl rfl ?_
  refine y_istore rfl rfl rfl ?_
  exact Pl_weak (C5 fu (by omega) (0) (from_) (by omega) (by omega) (by first | exact c27_0 | exact c27_m q29 (by omega) (by omega) (by omega) h5)) (by omega) (And.intro rfl (And.intro rfl (And.intro rfl (And.intro rfl (And.intro rfl (True.intro))))))
def md_co_takeGap__p : List rec := [(882, 883, 10, 11), (888, 889, 0, 100000)]
abbrev Q_co_takeGap__p (S : sS) (t : Nat) (from_ : Int) (to : Int) : pst := fun r S1 => RI S1 ∧ FR md_co_takeGap__p S S1 ∧ (∃ z : Int, r = some (iv z) ∧ (-2147483648 ≤ z ∧ z ≤ 2147483647) ∧ (GPO S S1 t from_ to z) ∧ (z = -1 ∨ (from_ ≤ z ∧ z ≤ to)))
set_option maxRecDepth 100000 in
theorem t_co_takeGap__p {S : sS} (hH : RI S) (t : Nat) (from_ : Int) (to : Int) (ht : tp t) (hfrom_ : 0 ≤ from_ ∧ from_ ≤ 5000) (hto : 0 ≤ to ∧ to ≤ 5000) (hby : BYT S t) (hft : from_ ≤ to) (d : Nat) : Mp lay0 (d + 3) m_co_takeGap [.ref 882, .ref t, iv from_, iv to] S (Q_co_takeGap__p S t from_ to) := by
  refine Mp_R rfl rfl (fun fu => ?_)
  have hF : FR md_co_takeGap__p S S := FR.rf
  have w1 : -2147483648 ≤ Xi S 882 10 ∧ Xi S 882 10 ≤ 2147483647 := Xi_rgI
  have C8 : ∀ (n8 : Nat) (_ : n8 ≤ fu) (T1 : sS) (_ : RI T1) (_ : FR md_co_takeGap__p S T1) (v4 : Int), (0 ≤ v4 ∧ v4 ≤ 5000) → (from_ ≤ v4 ∧ v4 ≤ to) → (0 ≤ Xi T1 882 10 ∧ Xi T1 882 10 ≤ v4) → (Hid (GLC S T1 t to from_ v4)) → Pl n8 lay0 (d + 2) m_co_takeGap 8 [(0, .ref 882), (1, .ref t), (3, iv to), (4, iv v4)] [] T1 (Q_co_takeGap__p S t from_ to) := by
    intro n8
    induction n8 with
    | zero => intros; exact Pl_0
    | succ n8 ih8 =>
      intro hm8 T1 hHT1 hFT1 v4 w2 w3 w4 G8
      have w5 : -2147483648 ≤ Xi T1 882 10 ∧ Xi T1 882 10 ≤ 2147483647 := Xi_rgI
      refine ys_iload rfl rfl ?_
      refine y_iload_n rfl rfl ?_
      refine y_icmp_ge rfl rfl (by unfold rg; omega) (by unfold rg; omega) (fun w6 => ?_) (fun w7 => ?_)
      · refine y_iconst rfl ?_
        refine y_ireturn rfl rfl ?_
        exact ⟨hHT1, hFT1, _, rfl, ⟨by omega, by omega⟩, (by first | (have u := K96; exact glc_x G8.o (by omega) (by omega) (by omega) e58 (Or.inr (Or.inr ⟨by omega, c68_ (by omega), by rw [← K96]; omega⟩))) | (have u := K68; exact glc_x (w := 0) G8.o (by omega) (by omega) (by omega) e58 (by omega)) | (have u := y17; exact glc_y G8.o (by omega) (by omega) (by omega) (by omega)) | exact glc_z G8.o (by omega) (by omega)), (by omega)⟩
      · refine y_aload_n rfl rfl ?_
        refine y_iload rfl rfl ?_
        refine y_baloadP (n := 5000) rfl (tp_sv (by assumption)) (lay_tp (by assumption)) (by decide) (by unfold rg; omega) (fun w8 w9 => ?_)
        have w10 : -2147483648 ≤ (Xi T1 t ((v4).toNat)) ∧ (Xi T1 t ((v4).toNat)) ≤ 2147483647 := Xi_rgI
        have y17 : Xi T1 t (v4).toNat = Xi S t (v4).toNat := congrFun (tp_F hFT1 rfl ht) _
        refine y_bipush rfl rfl ?_
        refine y_icmp_ne rfl rfl (by unfold rg; omega) (by unfold rg; omega) (fun w11 => ?_) (fun w12 => ?_)
        · refine y_aload_n rfl rfl ?_
          refine y_iload rfl rfl ?_
          refine y_baloadP (n := 5000) rfl (tp_sv (by assumption)) (lay_tp (by assumption)) (by decide) (by unfold rg; omega) (fun w13 w14 => ?_)
          refine y_bipush rfl rfl ?_
          refine y_icmp_ne rfl rfl (by unfold rg; omega) (by unfold rg; omega) (fun w15 => ?_) (fun w16 => ?_)
          · refine y_aload_n rfl rfl ?_
            refine y_iload rfl rfl ?_
            refine y_iload_n rfl rfl ?_
            refine y_callS rfl rfl (by decide) rfl (t_co_wordEnd__p hHT1 t v4 to ht ⟨by omega, by omega⟩ ⟨by omega, by omega⟩ (BYT_F hFT1 rfl ht hby) _) ?_
            rintro _ _ ⟨rfl, z18, rfl, w18, v58, w17⟩
            show Pl _ _ _ _ _ _ [iv z18] _ _
            have e58 : z18 = we7 (Xi S t) to v4 := by have u := v58; rw [tp_F hFT1 rfl ht] at u; exact u
            clear v58
            refine y_istore rfl rfl rfl ?_
            refine y_aload_n rfl rfl ?_
            refine y_iload rfl rfl ?_
            refine y_iload rfl rfl ?_
            refine y_callS rfl rfl (by decide) rfl (t_co_codeOf__p hHT1 t v4 z18 ht ⟨by omega, by omega⟩ ⟨by omega, by omega⟩ (BYT_F hFT1 rfl ht hby) (by first | assumption | omega) _) ?_
            rintro _ _ ⟨rfl, z19, rfl, v68, g68⟩
            show Pl _ _ _ _ _ _ [jw z19] _ _
            have K68 : True := trivial
            have c68_ : z18 - v4 ≤ 12 → z19 = c27 (Xi S t) (v4).toNat (z18 - v4).toNat := fun q => by have u := v68; rw [tp_F hFT1 rfl ht] at u; exact c27_d q u
            clear v68
            refine y_lstore rfl rfl rfl rfl ?_
            refine y_iload rfl rfl ?_
            refine y_iload rfl rfl ?_
            refine y_icmp_eq rfl rfl (by unfold rg; omega) (by unfold rg; omega) (fun w20 => ?_) (fun w21 => ?_)
            · refine y_iconst rfl ?_
              refine y_ireturn rfl rfl ?_
              exact ⟨hHT1, hFT1, _, rfl, ⟨by omega, by omega⟩, (by first | (have u := K96; exact glc_x G8.o (by omega) (by omega) (by omega) e58 (Or.inr (Or.inr ⟨by omega, c68_ (by omega), by rw [← K96]; omega⟩))) | (have u := K68; exact glc_x (w := 0) G8.o (by omega) (by omega) (by omega) e58 (by omega)) | (have u := y17; exact glc_y G8.o (by omega) (by omega) (by omega) (by omega)) | exact glc_z G8.o (by omega) (by omega)), (by omega)⟩
            · refine y_iload rfl rfl ?_
              refine y_iload rfl rfl ?_
              refine y_isub rfl ?_
              refine y_bipush rfl rfl ?_
              refine y_icmp_gt rfl rfl (by unfold rg; omega) (by unfold rg; omega) (fun w22 => ?_) (fun w23 => ?_)
              · refine y_iconst rfl ?_
                refine y_ireturn rfl rfl ?_
                exact ⟨hHT1, hFT1, _, rfl, ⟨by omega, by omega⟩, (by first | (have u := K96; exact glc_x G8.o (by omega) (by omega) (by omega) e58 (Or.inr (Or.inr ⟨by omega, c68_ (by omega), by rw [← K96]; omega⟩))) | (have u := K68; exact glc_x (w := 0) G8.o (by omega) (by omega) (by omega) e58 (by omega)) | (have u := y17; exact glc_y G8.o (by omega) (by omega) (by omega) (by omega)) | exact glc_z G8.o (by omega) (by omega)), (by omega)⟩
              · refine y_aload_n rfl rfl ?_
                refine y_gfr rfl rfl rfl rfl rfl (hHT1.r 882 0 876 rfl) ?_
                refine y_lload rfl rfl ?_
                refine y_callV rfl rfl rfl (t_to_keyOf__p hHT1 z19 (g68) _) ?_
                rintro _ _ ⟨rfl, z24, rfl, w24, k96⟩
                show Pl _ _ _ _ _ _ [iv z24] _ _
                have K96 : z24 = ky7 (Xj S 880) z19 100 := by have u := k96; rw [show Xj T1 880 = Xj S 880 from funext (fun j => (hFT1.cx 880 rfl j).2)] at u; exact u
                clear k96
                refine y_bipush rfl rfl ?_
                refine y_icmp_eq rfl rfl (by unfold rg; omega) (by unfold rg; omega) (fun w25 => ?_) (fun w26 => ?_)
                · refine y_aload_n rfl rfl ?_
                  refine y_gfi rfl rfl rfl rfl rfl ?_
                  refine y_iconst rfl ?_
                  refine y_icmp_ge rfl rfl (by unfold rg; omega) (by unfold rg; omega) (fun w27 => ?_) (fun w28 => ?_)
                  · refine y_aload_n rfl rfl ?_
                    refine y_dup rfl rfl ?_
                    refine y_gfi rfl rfl rfl rfl rfl ?_
                    refine y_iconst rfl ?_
                    refine y_iadd rfl ?_
                    refine y_pfi rfl rfl rfl rfl ?_
                    obtain ⟨U2, eU2⟩ : ∃ T : sS, T = uI T1 882 10 (Int32.ofInt ((Xi T1 882 10) + 1)) := ⟨_, rfl⟩
                    rw [← eU2]
                    have hHU2 : RI U2 := by rw [eU2]; exact RI_w hHT1
                    have hFU2 : FR md_co_takeGap__p S U2 := by rw [eU2]; exact FR.wI hFT1 (mdf_i (r := (882, 883, 10, 11)) (List.mem_of_getElem? (i := 0) rfl) (inR_i (by omega) (by omega) (by omega) (by omega)))
                    have w29 : Xi U2 882 10 = ((Xi T1 882 10) + 1) := by rw [eU2]; exact Xi_same (by unfold rg; omega)
                    have e132 := eU2
                    refine y_iload rfl rfl ?_
                    refine y_istore rfl rfl rfl ?_
                    have G137 : Hid (GLC S U2 t to from_ z18) := by first | (have u := e124; exact glc_ws G8.o (by omega) (by omega) e58 (by omega) (c68_ (by omega)) (by rw [← K96]; omega) g68 (by omega) e124 e132) | exact glc_wk G8.o (by omega) (by omega) e58 (by omega) (c68_ (by omega)) (by rw [← K96]; omega) (by omega) e132
                    refine y_goto rfl rfl ?_
                    exact Pl_weak (ih8 (by omega) U2 hHU2 hFU2 (z18) (by omega) (by omega) (by omega) (by first | exact G137 | exact G48 | exact glc_0 (by omega))) (by omega) (And.intro rfl (And.intro rfl (And.intro rfl (And.intro rfl (True.intro)))))
                  · refine y_aload_n rfl rfl ?_
                    refine y_gfr rfl rfl rfl rfl rfl (hHT1.r 882 9 888 rfl) ?_
                    refine y_aload_n rfl rfl ?_
                    refine y_gfi rfl rfl rfl rfl rfl ?_
                    refine y_lload rfl rfl ?_
                    refine y_lastoreP (n := 3) rfl rfl (by unfold rg; omega) (fun w30 w31 => ?_)
                    obtain ⟨U3, eU3⟩ : ∃ T : sS, T = uJ T1 888 (((Xi T1 882 10)).toNat) (Int64.ofInt z19) := ⟨_, rfl⟩
                    rw [← eU3]
                    have hHU3 : RI U3 := by rw [eU3]; exact RI_J hHT1
                    have hFU3 : FR md_co_takeGap__p S U3 := by rw [eU3]; exact FR.wJ hFT1 (mdf_i (r := (888, 889, 0, 100000)) (List.mem_of_getElem? (i := 1) rfl) (inR_i (by omega) (by omega) (by omega) (by omega)))
                    have e124 := eU3
                    refine y_aload_n rfl rfl ?_
                    refine y_dup rfl rfl ?_
                    refine y_gfi rfl rfl rfl rfl rfl ?_
                    have w32 : (Xi U3 882 10) = (Xi T1 882 10) := (show Xi U3 882 10 = Xi T1 882 10 from by rw [eU3]; rfl)
                    rw [w32]
                    refine y_iconst rfl ?_
                    refine y_iadd rfl ?_
                    refine y_pfi rfl rfl rfl rfl ?_
                    obtain ⟨U4, eU4⟩ : ∃ T : sS, T = uI U3 882 10 (Int32.ofInt ((Xi T1 882 10) + 1)) := ⟨_, rfl⟩
                    rw [← eU4]
                    have hHU4 : RI U4 := by rw [eU4]; exact RI_w hHU3
                    have hFU4 : FR md_co_takeGap__p S U4 := by rw [eU4]; exact FR.wI hFU3 (mdf_i (r := (882, 883, 10, 11)) (List.mem_of_getElem? (i := 0) rfl) (inR_i (by omega) (by omega) (by omega) (by omega)))
                    have w33 : Xi U4 882 10 = ((Xi T1 882 10) + 1) := by rw [eU4]; exact Xi_same (by unfold rg; omega)
                    have e132 := eU4
                    refine y_iload rfl rfl ?_
                    refine y_istore rfl rfl rfl ?_
                    have G137 : Hid (GLC S U4 t to from_ z18) := by first | (have u := e124; exact glc_ws G8.o (by omega) (by omega) e58 (by omega) (c68_ (by omega)) (by rw [← K96]; omega) g68 (by omega) e124 e132) | exact glc_wk G8.o (by omega) (by omega) e58 (by omega) (c68_ (by omega)) (by rw [← K96]; omega) (by omega) e132
                    refine y_goto rfl rfl ?_
                    exact Pl_weak (ih8 (by omega) U4 hHU4 hFU4 (z18) (by omega) (by omega) (by omega) (by first | exact G137 | exact G48 | exact glc_0 (by omega))) (by omega) (And.intro rfl (And.intro rfl (And.intro rfl (And.intro rfl (True.intro)))))
                · refine y_iconst rfl ?_
                  refine y_ireturn rfl rfl ?_
                  exact ⟨hHT1, hFT1, _, rfl, ⟨by omega, by omega⟩, (by first | (have u := K96; exact glc_x G8.o (by omega) (by omega) (by omega) e58 (Or.inr (Or.inr ⟨by omega, c68_ (by omega), by rw [← K96]; omega⟩))) | (have u := K68; exact glc_x (w := 0) G8.o (by omega) (by omega) (by omega) e58 (by omega)) | (have u := y17; exact glc_y G8.o (by omega) (by omega) (by omega) (by omega)) | exact glc_z G8.o (by omega) (by omega)), (by omega)⟩
          · refine y_iinc rfl rfl rfl rfl ?_
            have G48 : Hid (GLC S T1 t to from_ (v4 + 1)) := glc_b G8.o (by omega) (by omega)
            refine y_goto rfl rfl ?_
            exact Pl_weak (ih8 (by omega) T1 hHT1 hFT1 ((v4 + 1)) (by omega) (by omega) (by omega) (by first | exact G137 | exact G48 | exact glc_0 (by omega))) (by omega) (And.intro rfl (And.intro rfl (And.intro rfl (And.intro rfl (True.intro)))))
        · refine y_aload_n rfl rfl ?_
          refine y_gfi rfl rfl rfl rfl rfl ?_
          refine y_if_le rfl rfl (by unfold rg; omega) (fun w34 => ?_) (fun w35 => ?_)
          · refine y_iconst rfl ?_
            refine y_ireturn rfl rfl ?_
            exact ⟨hHT1, hFT1, _, rfl, ⟨by omega, by omega⟩, (by first | (have u := K96; exact glc_x G8.o (by omega) (by omega) (by omega) e58 (Or.inr (Or.inr ⟨by omega, c68_ (by omega), by rw [← K96]; omega⟩))) | (have u := K68; exact glc_x (w := 0) G8.o (by omega) (by omega) (by omega) e58 (by omega)) | (have u := y17; exact glc_y G8.o (by omega) (by omega) (by omega) (by omega)) | exact glc_z G8.o (by omega) (by omega)), (by omega)⟩
          · refine y_iload rfl rfl ?_
            refine y_iconst rfl ?_
            refine y_iadd rfl ?_
            refine y_goto rfl rfl ?_
            refine y_ireturn rfl rfl ?_
            exact ⟨hHT1, hFT1, _, rfl, ⟨by omega, by omega⟩, (by first | (have u := K96; exact glc_x G8.o (by omega) (by omega) (by omega) e58 (Or.inr (Or.inr ⟨by omega, c68_ (by omega), by rw [← K96]; omega⟩))) | (have u := K68; exact glc_x (w := 0) G8.o (by omega) (by omega) (by omega) e58 (by omega)) | (have u := y17; exact glc_y G8.o (by omega) (by omega) (by omega) (by omega)) | exact glc_z G8.o (by omega) (by omega)), (by omega)⟩
  refine y_iload_n rfl rfl ?_
  refine y_istore rfl rfl rfl ?_
  refine y_aload_n rfl rfl ?_
  refine y_iconst rfl ?_
  refine y_pfi rfl rfl rfl rfl ?_
  obtain ⟨U5, eU5⟩ : ∃ T : sS, T = uI S 882 10 (Int32.ofInt 0) := ⟨_, rfl⟩
  rw [← eU5]
  have hHU5 : RI U5 := by rw [eU5]; exact RI_w hH
  have hFU5 : FR md_co_takeGap__p S U5 := by rw [eU5]; exact FR.wI hF (mdf_i (r := (882, 883, 10, 11)) (List.mem_of_getElem? (i := 0) rfl) (inR_i (by omega) (by omega) (by omega) (by omega)))
  have w36 : Xi U5 882 10 = 0 := by rw [eU5]; exact Xi_same (by unfold rg; omega)
  exact Pl_weak (C8 fu (by omega) U5 hHU5 hFU5 (from_) (by omega) (by omega) (by omega) (by first | exact G137 | exact G48 | exact glc_0 (by omega))) (by omega) (And.intro rfl (And.intro rfl (And.intro rfl (And.intro rfl (True.intro)))))
def md_co_takeText__p : List rec := [(882, 883, 10, 11), (884, 885, 0, 100000), (885, 886, 0, 100000), (886, 887, 0, 100000), (887, 888, 0, 100000), (888, 889, 0, 100000)]
abbrev Q_co_takeText__p (S : sS) (t : Nat) (from_ : Int) (to : Int) : pst := fun r S1 => RI S1 ∧ FR md_co_takeText__p S S1 ∧ (∃ z : Int, r = some (iv z) ∧ (0 ≤ z ∧ z ≤ 1) ∧ (TXO S S1 t from_ to z))
set_option maxRecDepth 100000 in
theorem t_co_takeText__p {S : sS} (hH : RI S) (t : Nat) (from_ : Int) (to : Int) (ht : tp t) (hfrom_ : 0 ≤ from_ ∧ from_ ≤ 5000) (hto : 0 ≤ to ∧ to ≤ 5000) (hby : BYT S t) (hft : from_ ≤ to) (hc : 0 ≤ Xi S 882 3 ∧ Xi S 882 3 < 20) (d : Nat) : Mp lay0 (d + 4) m_co_takeText [.ref 882, .ref t, iv from_, iv to] S (Q_co_takeText__p S t from_ to) := by
  refine Mp_R rfl rfl (fun fu => ?_)
  have hF : FR md_co_takeText__p S S := FR.rf
  have w1 : -2147483648 ≤ Xi S 882 3 ∧ Xi S 882 3 ≤ 2147483647 := Xi_rgI
  have C26 : ∀ (n26 : Nat) (_ : n26 ≤ fu) (T1 : sS) (_ : RI T1) (_ : FR md_co_takeText__p S T1) (v4 : Int) (v5 : Int), (0 ≤ v4 ∧ v4 ≤ 8) → (-1 ≤ v5 ∧ v5 ≤ 5000) → (from_ ≤ v5 ∧ v5 ≤ to) → (0 ≤ v4 ∧ v4 ≤ 8) → (Hid (TLC S T1 t to from_ v5 v4)) → Pl n26 lay0 (d + 3) m_co_takeText 26 [(0, .ref 882), (1, .ref t), (3, iv to), (4, iv v4), (5, iv v5)] [] T1 (Q_co_takeText__p S t from_ to) := by
    intro n26
    induction n26 with
    | zero => intros; exact Pl_0
    | succ n26 ih26 =>
      intro hm26 T1 hHT1 hFT1 v4 v5 w2 w3 w4 w5 L26
      have w6 : Xi T1 882 3 = Xi S 882 3 := hFT1.x _ _ rfl
      have w7 : -2147483648 ≤ Xi T1 882 3 ∧ Xi T1 882 3 ≤ 2147483647 := Xi_rgI
      refine ys_iload rfl rfl ?_
      refine y_iload_n rfl rfl ?_
      refine y_icmp_ge rfl rfl (by unfold rg; omega) (by unfold rg; omega) (fun w8 => ?_) (fun w9 => ?_)
      · refine y_aload_n rfl rfl ?_
        refine y_gfr rfl rfl rfl rfl rfl (hHT1.r 882 5 884 rfl) ?_
        refine y_aload_n rfl rfl ?_
        refine y_gfi rfl rfl rfl rfl rfl ?_
        refine y_iload rfl rfl ?_
        refine y_iastoreP (n := 20) rfl rfl (by unfold rg; omega) (fun w10 w11 => ?_)
        obtain ⟨U2, eU2⟩ : ∃ T : sS, T = uI T1 884 (((Xi T1 882 3)).toNat) (Int32.ofInt v4) := ⟨_, rfl⟩
        rw [← eU2]
        have hHU2 : RI U2 := by rw [eU2]; exact RI_w hHT1
        have hFU2 : FR md_co_takeText__p S U2 := by rw [eU2]; exact FR.wI hFT1 (mdf_i (r := (884, 885, 0, 100000)) (List.mem_of_getElem? (i := 1) rfl) (inR_i (by omega) (by omega) (by omega) (by omega)))
        have w12 : Xi U2 884 (((Xi T1 882 3)).toNat) = v4 := by rw [eU2]; exact Xi_same (by unfold rg; omega)
        have e209 := eU2
        rw [show Xi T1 882 3 = Xi S 882 3 by omega] at e209
        refine y_iload rfl rfl ?_
        refine y_if_le rfl rfl (by unfold rg; omega) (fun w13 => ?_) (fun w14 => ?_)
        · refine y_iconst rfl ?_
          refine y_ireturn rfl rfl ?_
          have w15 : Xi U2 882 3 = Xi T1 882 3 := (show Xi U2 882 3 = Xi T1 882 3 from by rw [eU2]; exact Xi_ne (by omega))
          exact ⟨hHU2, hFU2, _, rfl, ⟨by omega, by omega⟩, (by first | (have u := K117; exact tlc_wx L26.o (by omega) (by omega) (by omega) (by omega) e117 (by omega)) | (have u := K105; exact tlc_gx L26.o (by omega) (by omega) (by omega) (by omega) (by omega) o105.1 (by omega)) | (have u := e209; exact tlc_z L26.o (by omega) (by omega) (by omega) e209 (by unfold rg; omega) (by omega)) | exact tlc_x L26.o (by omega) (by omega) (by omega) (by omega))⟩
        · refine y_iconst rfl ?_
          refine y_goto rfl rfl ?_
          refine y_ireturn rfl rfl ?_
          have w16 : Xi U2 882 3 = Xi T1 882 3 := (show Xi U2 882 3 = Xi T1 882 3 from by rw [eU2]; exact Xi_ne (by omega))
          exact ⟨hHU2, hFU2, _, rfl, ⟨by omega, by omega⟩, (by first | (have u := K117; exact tlc_wx L26.o (by omega) (by omega) (by omega) (by omega) e117 (by omega)) | (have u := K105; exact tlc_gx L26.o (by omega) (by omega) (by omega) (by omega) (by omega) o105.1 (by omega)) | (have u := e209; exact tlc_z L26.o (by omega) (by omega) (by omega) e209 (by unfold rg; omega) (by omega)) | exact tlc_x L26.o (by omega) (by omega) (by omega) (by omega))⟩
      · refine y_aload_n rfl rfl ?_
        refine y_iload rfl rfl ?_
        refine y_baloadP (n := 5000) rfl (tp_sv (by assumption)) (lay_tp (by assumption)) (by decide) (by unfold rg; omega) (fun w17 w18 => ?_)
        have w19 : -2147483648 ≤ (Xi T1 t ((v5).toNat)) ∧ (Xi T1 t ((v5).toNat)) ≤ 2147483647 := Xi_rgI
        have y35 : Xi T1 t (v5).toNat = Xi S t (v5).toNat := congrFun (tp_F hFT1 rfl ht) _
        refine y_bipush rfl rfl ?_
        refine y_icmp_ne rfl rfl (by unfold rg; omega) (by unfold rg; omega) (fun w20 => ?_) (fun w21 => ?_)
        · refine y_iload rfl rfl ?_
          refine y_bipush rfl rfl ?_
          refine y_icmp_eq rfl rfl (by unfold rg; omega) (by unfold rg; omega) (fun w22 => ?_) (fun w23 => ?_)
          · refine y_iconst rfl ?_
            refine y_ireturn rfl rfl ?_
            exact ⟨hHT1, hFT1, _, rfl, ⟨by omega, by omega⟩, (by first | (have u := K117; exact tlc_wx L26.o (by omega) (by omega) (by omega) (by omega) e117 (by omega)) | (have u := K105; exact tlc_gx L26.o (by omega) (by omega) (by omega) (by omega) (by omega) o105.1 (by omega)) | (have u := e209; exact tlc_z L26.o (by omega) (by omega) (by omega) e209 (by unfold rg; omega) (by omega)) | exact tlc_x L26.o (by omega) (by omega) (by omega) (by omega))⟩
          · refine y_aload_n rfl rfl ?_
            refine y_iload rfl rfl ?_
            refine y_baloadP (n := 5000) rfl (tp_sv (by assumption)) (lay_tp (by assumption)) (by decide) (by unfold rg; omega) (fun w24 w25 => ?_)
            refine y_bipush rfl rfl ?_
            refine y_icmp_ne rfl rfl (by unfold rg; omega) (by unfold rg; omega) (fun w26 => ?_) (fun w27 => ?_)
            · refine y_aload_n rfl rfl ?_
              refine y_iload rfl rfl ?_
              refine y_baloadP (n := 5000) rfl (tp_sv (by assumption)) (lay_tp (by assumption)) (by decide) (by unfold rg; omega) (fun w28 w29 => ?_)
              refine y_bipush rfl rfl ?_
              refine y_icmp_ne rfl rfl (by unfold rg; omega) (by unfold rg; omega) (fun w30 => ?_) (fun w31 => ?_)
              · refine y_aload_n rfl rfl ?_
                refine y_iload rfl rfl ?_
                refine y_iload_n rfl rfl ?_
                refine y_callS rfl rfl (by decide) rfl (t_co_wordEnd__p hHT1 t v5 to ht ⟨by omega, by omega⟩ ⟨by omega, by omega⟩ (BYT_F hFT1 rfl ht hby) _) ?_
                rintro _ _ ⟨rfl, z33, rfl, w33, v117, w32⟩
                show Pl _ _ _ _ _ _ [iv z33] _ _
                have K117 : True := trivial
                have e117 : z33 = we7 (Xi S t) to v5 := by have u := v117; rw [tp_F hFT1 rfl ht] at u; exact u
                clear v117
                refine y_istore rfl rfl rfl ?_
                refine y_aload_n rfl rfl ?_
                refine y_gfr rfl rfl rfl rfl rfl (hHT1.r 882 8 887 rfl) ?_
                refine y_aload_n rfl rfl ?_
                refine y_gfi rfl rfl rfl rfl rfl ?_
                refine y_bipush rfl rfl ?_
                refine y_imul rfl ?_
                refine y_iload rfl rfl ?_
                refine y_iadd rfl ?_
                refine y_aload_n rfl rfl ?_
                refine y_iload rfl rfl ?_
                refine y_iload rfl rfl ?_
                refine y_callS rfl rfl (by decide) rfl (t_co_codeOf__p hHT1 t v5 z33 ht ⟨by omega, by omega⟩ ⟨by omega, by omega⟩ (BYT_F hFT1 rfl ht hby) (by first | assumption | omega) _) ?_
                rintro _ _ ⟨rfl, z34, rfl, v141, g141⟩
                show Pl _ _ _ _ _ _ [jw z34, iv (((Xi T1 882 3) * 8) + v4), .ref 887] _ _
                have c141 : z33 - v5 ≤ 12 → z34 = c27 (Xi S t) (v5).toNat (z33 - v5).toNat := fun q => by have u := v141; rw [tp_F hFT1 rfl ht] at u; exact c27_d q u
                clear v141
                refine y_lastoreP (n := 160) rfl rfl (by unfold rg; omega) (fun w35 w36 => ?_)
                obtain ⟨U3, eU3⟩ : ∃ T : sS, T = uJ T1 887 (((((Xi T1 882 3) * 8) + v4)).toNat) (Int64.ofInt z34) := ⟨_, rfl⟩
                rw [← eU3]
                have hHU3 : RI U3 := by rw [eU3]; exact RI_J hHT1
                have hFU3 : FR md_co_takeText__p S U3 := by rw [eU3]; exact FR.wJ hFT1 (mdf_i (r := (887, 888, 0, 100000)) (List.mem_of_getElem? (i := 4) rfl) (inR_i (by omega) (by omega) (by omega) (by omega)))
                have e144 := eU3
                rw [show Xi T1 882 3 = Xi S 882 3 by omega] at e144
                refine y_iload rfl rfl ?_
                refine y_iload rfl rfl ?_
                refine y_icmp_le rfl rfl (by unfold rg; omega) (by unfold rg; omega) (fun w37 => ?_) (fun w38 => ?_)
                · refine y_iconst rfl ?_
                  refine y_istore rfl rfl rfl ?_
                  refine y_iload rfl rfl ?_
                  refine y_iconst rfl ?_
                  refine y_icmp_eq rfl rfl (by unfold rg; omega) (by unfold rg; omega) (fun w39 => ?_) (fun w40 => absurd w40 (by omega))
                  · refine y_iconst rfl ?_
                    refine y_ireturn rfl rfl ?_
                    have w41 : Xi U3 882 3 = Xi T1 882 3 := (show Xi U3 882 3 = Xi T1 882 3 from by rw [eU3]; rfl)
                    exact ⟨hHU3, hFU3, _, rfl, ⟨by omega, by omega⟩, (by first | (have u := K117; exact tlc_wx L26.o (by omega) (by omega) (by omega) (by omega) e117 (by omega)) | (have u := K105; exact tlc_gx L26.o (by omega) (by omega) (by omega) (by omega) (by omega) o105.1 (by omega)) | (have u := e209; exact tlc_z L26.o (by omega) (by omega) (by omega) e209 (by unfold rg; omega) (by omega)) | exact tlc_x L26.o (by omega) (by omega) (by omega) (by omega))⟩
                · refine y_iload rfl rfl ?_
                  refine y_iload rfl rfl ?_
                  refine y_isub rfl ?_
                  refine y_bipush rfl rfl ?_
                  refine y_icmp_gt rfl rfl (by unfold rg; omega) (by unfold rg; omega) (fun w42 => ?_) (fun w43 => ?_)
                  · refine y_iconst rfl ?_
                    refine y_istore rfl rfl rfl ?_
                    refine y_iload rfl rfl ?_
                    refine y_iconst rfl ?_
                    refine y_icmp_eq rfl rfl (by unfold rg; omega) (by unfold rg; omega) (fun w44 => ?_) (fun w45 => absurd w45 (by omega))
                    · refine y_iconst rfl ?_
                      refine y_ireturn rfl rfl ?_
                      have w46 : Xi U3 882 3 = Xi T1 882 3 := (show Xi U3 882 3 = Xi T1 882 3 from by rw [eU3]; rfl)
                      exact ⟨hHU3, hFU3, _, rfl, ⟨by omega, by omega⟩, (by first | (have u := K117; exact tlc_wx L26.o (by omega) (by omega) (by omega) (by omega) e117 (by omega)) | (have u := K105; exact tlc_gx L26.o (by omega) (by omega) (by omega) (by omega) (by omega) o105.1 (by omega)) | (have u := e209; exact tlc_z L26.o (by omega) (by omega) (by omega) e209 (by unfold rg; omega) (by omega)) | exact tlc_x L26.o (by omega) (by omega) (by omega) (by omega))⟩
                  · refine y_iload rfl rfl ?_
                    refine y_goto rfl rfl ?_
                    refine y_istore rfl rfl rfl ?_
                    refine y_iload rfl rfl ?_
                    refine y_iconst rfl ?_
                    refine y_icmp_eq rfl rfl (by unfold rg; omega) (by unfold rg; omega) (fun w47 => ?_) (fun w48 => ?_)
                    · refine y_iconst rfl ?_
                      refine y_ireturn rfl rfl ?_
                      have w49 : Xi U3 882 3 = Xi T1 882 3 := (show Xi U3 882 3 = Xi T1 882 3 from by rw [eU3]; rfl)
                      exact ⟨hHU3, hFU3, _, rfl, ⟨by omega, by omega⟩, (by first | (have u := K117; exact tlc_wx L26.o (by omega) (by omega) (by omega) (by omega) e117 (by omega)) | (have u := K105; exact tlc_gx L26.o (by omega) (by omega) (by omega) (by omega) (by omega) o105.1 (by omega)) | (have u := e209; exact tlc_z L26.o (by omega) (by omega) (by omega) e209 (by unfold rg; omega) (by omega)) | exact tlc_x L26.o (by omega) (by omega) (by omega) (by omega))⟩
                    · refine y_iload rfl rfl ?_
                      refine y_iload_n rfl rfl ?_
                      refine y_icmp_ge rfl rfl (by unfold rg; omega) (by unfold rg; omega) (fun w50 => ?_) (fun w51 => ?_)
                      · refine y_iinc rfl rfl rfl rfl ?_
                        have L193 : Hid (TLC S U3 t to from_ z33 (v4 + 1)) := by first | (have u := K117; exact tlc_w L26.o (by omega) (by omega) (by omega) (by omega) e117 (by omega) (c141 (by omega)) g141 e144) | exact tlc_g L26.o (by omega) (by omega) (by omega) (by omega) (by unfold rg; omega) (by omega) e97 F105 rfl o105 (by omega)
                        refine y_goto rfl rfl ?_
                        have w52 : Xi U3 882 3 = Xi T1 882 3 := (show Xi U3 882 3 = Xi T1 882 3 from by rw [eU3]; rfl)
                        exact Pl_weak (ih26 (by omega) U3 hHU3 hFU3 ((v4 + 1)) (z33) (by omega) (by omega) (by omega) (by omega) (by first | exact L193 | exact L41 | exact tlc_0 A24.1 A24.2)) (by omega) (And.intro rfl (And.intro rfl (And.intro rfl (And.intro rfl (And.intro rfl (True.intro))))))
                      · refine y_aload_n rfl rfl ?_
                        refine y_iload rfl rfl ?_
                        refine y_baloadP (n := 5000) rfl (tp_sv (by assumption)) (lay_tp (by assumption)) (by decide) (by unfold rg; omega) (fun w53 w54 => ?_)
                        have w55 : -2147483648 ≤ (Xi U3 t ((z33).toNat)) ∧ (Xi U3 t ((z33).toNat)) ≤ 2147483647 := Xi_rgI
                        have y185 : Xi U3 t (z33).toNat = Xi S t (z33).toNat := congrFun (tp_F hFU3 rfl ht) _
                        refine y_bipush rfl rfl ?_
                        refine y_icmp_eq rfl rfl (by unfold rg; omega) (by unfold rg; omega) (fun w56 => ?_) (fun w57 => ?_)
                        · refine y_iinc rfl rfl rfl rfl ?_
                          have L193 : Hid (TLC S U3 t to from_ z33 (v4 + 1)) := by first | (have u := K117; exact tlc_w L26.o (by omega) (by omega) (by omega) (by omega) e117 (by omega) (c141 (by omega)) g141 e144) | exact tlc_g L26.o (by omega) (by omega) (by omega) (by omega) (by unfold rg; omega) (by omega) e97 F105 rfl o105 (by omega)
                          refine y_goto rfl rfl ?_
                          have w58 : Xi U3 882 3 = Xi T1 882 3 := (show Xi U3 882 3 = Xi T1 882 3 from by rw [eU3]; rfl)
                          exact Pl_weak (ih26 (by omega) U3 hHU3 hFU3 ((v4 + 1)) (z33) (by omega) (by omega) (by omega) (by omega) (by first | exact L193 | exact L41 | exact tlc_0 A24.1 A24.2)) (by omega) (And.intro rfl (And.intro rfl (And.intro rfl (And.intro rfl (And.intro rfl (True.intro))))))
                        · refine y_iconst rfl ?_
                          refine y_ireturn rfl rfl ?_
                          have w59 : Xi U3 882 3 = Xi T1 882 3 := (show Xi U3 882 3 = Xi T1 882 3 from by rw [eU3]; rfl)
                          exact ⟨hHU3, hFU3, _, rfl, ⟨by omega, by omega⟩, (by first | (have u := K117; exact tlc_wx L26.o (by omega) (by omega) (by omega) (by omega) e117 (by omega)) | (have u := K105; exact tlc_gx L26.o (by omega) (by omega) (by omega) (by omega) (by omega) o105.1 (by omega)) | (have u := e209; exact tlc_z L26.o (by omega) (by omega) (by omega) e209 (by unfold rg; omega) (by omega)) | exact tlc_x L26.o (by omega) (by omega) (by omega) (by omega))⟩
              · refine y_aload_n rfl rfl ?_
                refine y_gfr rfl rfl rfl rfl rfl (hHT1.r 882 6 885 rfl) ?_
                refine y_aload_n rfl rfl ?_
                refine y_gfi rfl rfl rfl rfl rfl ?_
                refine y_iload rfl rfl ?_
                refine y_iastoreP (n := 20) rfl rfl (by unfold rg; omega) (fun w60 w61 => ?_)
                obtain ⟨U4, eU4⟩ : ∃ T : sS, T = uI T1 885 (((Xi T1 882 3)).toNat) (Int32.ofInt v4) := ⟨_, rfl⟩
                rw [← eU4]
                have hHU4 : RI U4 := by rw [eU4]; exact RI_w hHT1
                have hFU4 : FR md_co_takeText__p S U4 := by rw [eU4]; exact FR.wI hFT1 (mdf_i (r := (885, 886, 0, 100000)) (List.mem_of_getElem? (i := 2) rfl) (inR_i (by omega) (by omega) (by omega) (by omega)))
                have w62 : Xi U4 885 (((Xi T1 882 3)).toNat) = v4 := by rw [eU4]; exact Xi_same (by unfold rg; omega)
                have e97 := eU4
                rw [show Xi T1 882 3 = Xi S 882 3 by omega] at e97
                refine y_aload_n rfl rfl ?_
                refine y_aload_n rfl rfl ?_
                refine y_iload rfl rfl ?_
                refine y_iconst rfl ?_
                refine y_iadd rfl ?_
                refine y_iload_n rfl rfl ?_
                have w63 : Xi U4 882 3 = Xi T1 882 3 := (show Xi U4 882 3 = Xi T1 882 3 from by rw [eU4]; exact Xi_ne (by omega))
                refine y_callV rfl rfl rfl (t_co_takeGap__p hHU4 t (v5 + 1) to ht ⟨by omega, by omega⟩ ⟨by omega, by omega⟩ (BYT_F hFU4 rfl ht hby) (by first | assumption | omega) _) ?_
                rintro _ T5 ⟨hHT5, w66, z65, rfl, w65, o105_, w64⟩
                have hFT5 : FR md_co_takeText__p S T5 := FR.tr hFU4 w66 rfl
                show Pl _ _ _ _ _ _ [iv z65] _ _
                have K105 : True := trivial
                have o105 := gpo_F hFU4 rfl rfl ht o105_
                clear o105_
                have F105 := (by assumption : FR md_co_takeGap__p U4 T5)
                refine y_istore rfl rfl rfl ?_
                refine y_goto rfl rfl ?_
                refine y_iload rfl rfl ?_
                refine y_iconst rfl ?_
                refine y_icmp_eq rfl rfl (by unfold rg; omega) (by unfold rg; omega) (fun w67 => ?_) (fun w68 => ?_)
                · refine y_iconst rfl ?_
                  refine y_ireturn rfl rfl ?_
                  have w69 : Xi T5 882 3 = Xi T1 882 3 := (show Xi T5 882 3 = Xi U4 882 3 from w66.x _ _ rfl).trans ((show Xi U4 882 3 = Xi T1 882 3 from by rw [eU4]; exact Xi_ne (by omega)))
                  exact ⟨hHT5, hFT5, _, rfl, ⟨by omega, by omega⟩, (by first | (have u := K117; exact tlc_wx L26.o (by omega) (by omega) (by omega) (by omega) e117 (by omega)) | (have u := K105; exact tlc_gx L26.o (by omega) (by omega) (by omega) (by omega) (by omega) o105.1 (by omega)) | (have u := e209; exact tlc_z L26.o (by omega) (by omega) (by omega) e209 (by unfold rg; omega) (by omega)) | exact tlc_x L26.o (by omega) (by omega) (by omega) (by omega))⟩
                · refine y_iload rfl rfl ?_
                  refine y_iload_n rfl rfl ?_
                  refine y_icmp_ge rfl rfl (by unfold rg; omega) (by unfold rg; omega) (fun w70 => ?_) (fun w71 => ?_)
                  · refine y_iinc rfl rfl rfl rfl ?_
                    have L193 : Hid (TLC S T5 t to from_ z65 (v4 + 1)) := by first | (have u := K117; exact tlc_w L26.o (by omega) (by omega) (by omega) (by omega) e117 (by omega) (c141 (by omega)) g141 e144) | exact tlc_g L26.o (by omega) (by omega) (by omega) (by omega) (by unfold rg; omega) (by omega) e97 F105 rfl o105 (by omega)
                    refine y_goto rfl rfl ?_
                    have w72 : Xi T5 882 3 = Xi T1 882 3 := (show Xi T5 882 3 = Xi U4 882 3 from w66.x _ _ rfl).trans ((show Xi U4 882 3 = Xi T1 882 3 from by rw [eU4]; exact Xi_ne (by omega)))
                    exact Pl_weak (ih26 (by omega) T5 hHT5 hFT5 ((v4 + 1)) (z65) (by omega) (by omega) (by omega) (by omega) (by first | exact L193 | exact L41 | exact tlc_0 A24.1 A24.2)) (by omega) (And.intro rfl (And.intro rfl (And.intro rfl (And.intro rfl (And.intro rfl (True.intro))))))
                  · refine y_aload_n rfl rfl ?_
                    refine y_iload rfl rfl ?_
                    refine y_baloadP (n := 5000) rfl (tp_sv (by assumption)) (lay_tp (by assumption)) (by decide) (by unfold rg; omega) (fun w73 w74 => ?_)
                    have w75 : -2147483648 ≤ (Xi T5 t ((z65).toNat)) ∧ (Xi T5 t ((z65).toNat)) ≤ 2147483647 := Xi_rgI
                    have y185 : Xi T5 t (z65).toNat = Xi S t (z65).toNat := congrFun (tp_F hFT5 rfl ht) _
                    refine y_bipush rfl rfl ?_
                    refine y_icmp_eq rfl rfl (by unfold rg; omega) (by unfold rg; omega) (fun w76 => ?_) (fun w77 => ?_)
                    · refine y_iinc rfl rfl rfl rfl ?_
                      have L193 : Hid (TLC S T5 t to from_ z65 (v4 + 1)) := by first | (have u := K117; exact tlc_w L26.o (by omega) (by omega) (by omega) (by omega) e117 (by omega) (c141 (by omega)) g141 e144) | exact tlc_g L26.o (by omega) (by omega) (by omega) (by omega) (by unfold rg; omega) (by omega) e97 F105 rfl o105 (by omega)
                      refine y_goto rfl rfl ?_
                      have w78 : Xi T5 882 3 = Xi T1 882 3 := (show Xi T5 882 3 = Xi U4 882 3 from w66.x _ _ rfl).trans ((show Xi U4 882 3 = Xi T1 882 3 from by rw [eU4]; exact Xi_ne (by omega)))
                      exact Pl_weak (ih26 (by omega) T5 hHT5 hFT5 ((v4 + 1)) (z65) (by omega) (by omega) (by omega) (by omega) (by first | exact L193 | exact L41 | exact tlc_0 A24.1 A24.2)) (by omega) (And.intro rfl (And.intro rfl (And.intro rfl (And.intro rfl (And.intro rfl (True.intro))))))
                    · refine y_iconst rfl ?_
                      refine y_ireturn rfl rfl ?_
                      have w79 : Xi T5 882 3 = Xi T1 882 3 := (show Xi T5 882 3 = Xi U4 882 3 from w66.x _ _ rfl).trans ((show Xi U4 882 3 = Xi T1 882 3 from by rw [eU4]; exact Xi_ne (by omega)))
                      exact ⟨hHT5, hFT5, _, rfl, ⟨by omega, by omega⟩, (by first | (have u := K117; exact tlc_wx L26.o (by omega) (by omega) (by omega) (by omega) e117 (by omega)) | (have u := K105; exact tlc_gx L26.o (by omega) (by omega) (by omega) (by omega) (by omega) o105.1 (by omega)) | (have u := e209; exact tlc_z L26.o (by omega) (by omega) (by omega) e209 (by unfold rg; omega) (by omega)) | exact tlc_x L26.o (by omega) (by omega) (by omega) (by omega))⟩
            · refine y_aload_n rfl rfl ?_
              refine y_gfr rfl rfl rfl rfl rfl (hHT1.r 882 6 885 rfl) ?_
              refine y_aload_n rfl rfl ?_
              refine y_gfi rfl rfl rfl rfl rfl ?_
              refine y_ialoadP (n := 20) rfl rfl (by unfold rg; omega) (fun w80 w81 => ?_)
              have w82 : -2147483648 ≤ (Xi T1 885 (((Xi T1 882 3)).toNat)) ∧ (Xi T1 885 (((Xi T1 882 3)).toNat)) ≤ 2147483647 := Xi_rgI
              have n71 : Xi T1 882 3 = Xi S 882 3 := hFT1.x 882 3 rfl
              have g71 : Xi T1 885 (Xi S 882 3).toNat = (Xi T1 885 (((Xi T1 882 3)).toNat)) := by rw [n71]
              refine y_iconst rfl ?_
              refine y_icmp_eq rfl rfl (by unfold rg; omega) (by unfold rg; omega) (fun w83 => ?_) (fun w84 => ?_)
              · refine y_aload_n rfl rfl ?_
                refine y_iload rfl rfl ?_
                refine y_baloadP (n := 5000) rfl (tp_sv (by assumption)) (lay_tp (by assumption)) (by decide) (by unfold rg; omega) (fun w85 w86 => ?_)
                refine y_bipush rfl rfl ?_
                refine y_icmp_ne rfl rfl (by unfold rg; omega) (by unfold rg; omega) (fun w87 => ?_) (fun w88 => ?_)
                · refine y_aload_n rfl rfl ?_
                  refine y_iload rfl rfl ?_
                  refine y_iload_n rfl rfl ?_
                  refine y_callS rfl rfl (by decide) rfl (t_co_wordEnd__p hHT1 t v5 to ht ⟨by omega, by omega⟩ ⟨by omega, by omega⟩ (BYT_F hFT1 rfl ht hby) _) ?_
                  rintro _ _ ⟨rfl, z90, rfl, w90, v117, w89⟩
                  show Pl _ _ _ _ _ _ [iv z90] _ _
                  have K117 : True := trivial
                  have e117 : z90 = we7 (Xi S t) to v5 := by have u := v117; rw [tp_F hFT1 rfl ht] at u; exact u
                  clear v117
                  refine y_istore rfl rfl rfl ?_
                  refine y_aload_n rfl rfl ?_
                  refine y_gfr rfl rfl rfl rfl rfl (hHT1.r 882 8 887 rfl) ?_
                  refine y_aload_n rfl rfl ?_
                  refine y_gfi rfl rfl rfl rfl rfl ?_
                  refine y_bipush rfl rfl ?_
                  refine y_imul rfl ?_
                  refine y_iload rfl rfl ?_
                  refine y_iadd rfl ?_
                  refine y_aload_n rfl rfl ?_
                  refine y_iload rfl rfl ?_
                  refine y_iload rfl rfl ?_
                  refine y_callS rfl rfl (by decide) rfl (t_co_codeOf__p hHT1 t v5 z90 ht ⟨by omega, by omega⟩ ⟨by omega, by omega⟩ (BYT_F hFT1 rfl ht hby) (by first | assumption | omega) _) ?_
                  rintro _ _ ⟨rfl, z91, rfl, v141, g141⟩
                  show Pl _ _ _ _ _ _ [jw z91, iv (((Xi T1 882 3) * 8) + v4), .ref 887] _ _
                  have c141 : z90 - v5 ≤ 12 → z91 = c27 (Xi S t) (v5).toNat (z90 - v5).toNat := fun q => by have u := v141; rw [tp_F hFT1 rfl ht] at u; exact c27_d q u
                  clear v141
                  refine y_lastoreP (n := 160) rfl rfl (by unfold rg; omega) (fun w92 w93 => ?_)
                  obtain ⟨U6, eU6⟩ : ∃ T : sS, T = uJ T1 887 (((((Xi T1 882 3) * 8) + v4)).toNat) (Int64.ofInt z91) := ⟨_, rfl⟩
                  rw [← eU6]
                  have hHU6 : RI U6 := by rw [eU6]; exact RI_J hHT1
                  have hFU6 : FR md_co_takeText__p S U6 := by rw [eU6]; exact FR.wJ hFT1 (mdf_i (r := (887, 888, 0, 100000)) (List.mem_of_getElem? (i := 4) rfl) (inR_i (by omega) (by omega) (by omega) (by omega)))
                  have e144 := eU6
                  rw [show Xi T1 882 3 = Xi S 882 3 by omega] at e144
                  refine y_iload rfl rfl ?_
                  refine y_iload rfl rfl ?_
                  refine y_icmp_le rfl rfl (by unfold rg; omega) (by unfold rg; omega) (fun w94 => ?_) (fun w95 => ?_)
                  · refine y_iconst rfl ?_
                    refine y_istore rfl rfl rfl ?_
                    refine y_iload rfl rfl ?_
                    refine y_iconst rfl ?_
                    refine y_icmp_eq rfl rfl (by unfold rg; omega) (by unfold rg; omega) (fun w96 => ?_) (fun w97 => absurd w97 (by omega))
                    · refine y_iconst rfl ?_
                      refine y_ireturn rfl rfl ?_
                      have w98 : Xi U6 882 3 = Xi T1 882 3 := (show Xi U6 882 3 = Xi T1 882 3 from by rw [eU6]; rfl)
                      exact ⟨hHU6, hFU6, _, rfl, ⟨by omega, by omega⟩, (by first | (have u := K117; exact tlc_wx L26.o (by omega) (by omega) (by omega) (by omega) e117 (by omega)) | (have u := K105; exact tlc_gx L26.o (by omega) (by omega) (by omega) (by omega) (by omega) o105.1 (by omega)) | (have u := e209; exact tlc_z L26.o (by omega) (by omega) (by omega) e209 (by unfold rg; omega) (by omega)) | exact tlc_x L26.o (by omega) (by omega) (by omega) (by omega))⟩
                  · refine y_iload rfl rfl ?_
                    refine y_iload rfl rfl ?_
                    refine y_isub rfl ?_
                    refine y_bipush rfl rfl ?_
                    refine y_icmp_gt rfl rfl (by unfold rg; omega) (by unfold rg; omega) (fun w99 => ?_) (fun w100 => ?_)
                    · refine y_iconst rfl ?_
                      refine y_istore rfl rfl rfl ?_
                      refine y_iload rfl rfl ?_
                      refine y_iconst rfl ?_
                      refine y_icmp_eq rfl rfl (by unfold rg; omega) (by unfold rg; omega) (fun w101 => ?_) (fun w102 => absurd w102 (by omega))
                      · refine y_iconst rfl ?_
                        refine y_ireturn rfl rfl ?_
                        have w103 : Xi U6 882 3 = Xi T1 882 3 := (show Xi U6 882 3 = Xi T1 882 3 from by rw [eU6]; rfl)
                        exact ⟨hHU6, hFU6, _, rfl, ⟨by omega, by omega⟩, (by first | (have u := K117; exact tlc_wx L26.o (by omega) (by omega) (by omega) (by omega) e117 (by omega)) | (have u := K105; exact tlc_gx L26.o (by omega) (by omega) (by omega) (by omega) (by omega) o105.1 (by omega)) | (have u := e209; exact tlc_z L26.o (by omega) (by omega) (by omega) e209 (by unfold rg; omega) (by omega)) | exact tlc_x L26.o (by omega) (by omega) (by omega) (by omega))⟩
                    · refine y_iload rfl rfl ?_
                      refine y_goto rfl rfl ?_
                      refine y_istore rfl rfl rfl ?_
                      refine y_iload rfl rfl ?_
                      refine y_iconst rfl ?_
                      refine y_icmp_eq rfl rfl (by unfold rg; omega) (by unfold rg; omega) (fun w104 => ?_) (fun w105 => ?_)
                      · refine y_iconst rfl ?_
                        refine y_ireturn rfl rfl ?_
                        have w106 : Xi U6 882 3 = Xi T1 882 3 := (show Xi U6 882 3 = Xi T1 882 3 from by rw [eU6]; rfl)
                        exact ⟨hHU6, hFU6, _, rfl, ⟨by omega, by omega⟩, (by first | (have u := K117; exact tlc_wx L26.o (by omega) (by omega) (by omega) (by omega) e117 (by omega)) | (have u := K105; exact tlc_gx L26.o (by omega) (by omega) (by omega) (by omega) (by omega) o105.1 (by omega)) | (have u := e209; exact tlc_z L26.o (by omega) (by omega) (by omega) e209 (by unfold rg; omega) (by omega)) | exact tlc_x L26.o (by omega) (by omega) (by omega) (by omega))⟩
                      · refine y_iload rfl rfl ?_
                        refine y_iload_n rfl rfl ?_
                        refine y_icmp_ge rfl rfl (by unfold rg; omega) (by unfold rg; omega) (fun w107 => ?_) (fun w108 => ?_)
                        · refine y_iinc rfl rfl rfl rfl ?_
                          have L193 : Hid (TLC S U6 t to from_ z90 (v4 + 1)) := by first | (have u := K117; exact tlc_w L26.o (by omega) (by omega) (by omega) (by omega) e117 (by omega) (c141 (by omega)) g141 e144) | exact tlc_g L26.o (by omega) (by omega) (by omega) (by omega) (by unfold rg; omega) (by omega) e97 F105 rfl o105 (by omega)
                          refine y_goto rfl rfl ?_
                          have w109 : Xi U6 882 3 = Xi T1 882 3 := (show Xi U6 882 3 = Xi T1 882 3 from by rw [eU6]; rfl)
                          exact Pl_weak (ih26 (by omega) U6 hHU6 hFU6 ((v4 + 1)) (z90) (by omega) (by omega) (by omega) (by omega) (by first | exact L193 | exact L41 | exact tlc_0 A24.1 A24.2)) (by omega) (And.intro rfl (And.intro rfl (And.intro rfl (And.intro rfl (And.intro rfl (True.intro))))))
                        · refine y_aload_n rfl rfl ?_
                          refine y_iload rfl rfl ?_
                          refine y_baloadP (n := 5000) rfl (tp_sv (by assumption)) (lay_tp (by assumption)) (by decide) (by unfold rg; omega) (fun w110 w111 => ?_)
                          have w112 : -2147483648 ≤ (Xi U6 t ((z90).toNat)) ∧ (Xi U6 t ((z90).toNat)) ≤ 2147483647 := Xi_rgI
                          have y185 : Xi U6 t (z90).toNat = Xi S t (z90).toNat := congrFun (tp_F hFU6 rfl ht) _
                          refine y_bipush rfl rfl ?_
                          refine y_icmp_eq rfl rfl (by unfold rg; omega) (by unfold rg; omega) (fun w113 => ?_) (fun w114 => ?_)
                          · refine y_iinc rfl rfl rfl rfl ?_
                            have L193 : Hid (TLC S U6 t to from_ z90 (v4 + 1)) := by first | (have u := K117; exact tlc_w L26.o (by omega) (by omega) (by omega) (by omega) e117 (by omega) (c141 (by omega)) g141 e144) | exact tlc_g L26.o (by omega) (by omega) (by omega) (by omega) (by unfold rg; omega) (by omega) e97 F105 rfl o105 (by omega)
                            refine y_goto rfl rfl ?_
                            have w115 : Xi U6 882 3 = Xi T1 882 3 := (show Xi U6 882 3 = Xi T1 882 3 from by rw [eU6]; rfl)
                            exact Pl_weak (ih26 (by omega) U6 hHU6 hFU6 ((v4 + 1)) (z90) (by omega) (by omega) (by omega) (by omega) (by first | exact L193 | exact L41 | exact tlc_0 A24.1 A24.2)) (by omega) (And.intro rfl (And.intro rfl (And.intro rfl (And.intro rfl (And.intro rfl (True.intro))))))
                          · refine y_iconst rfl ?_
                            refine y_ireturn rfl rfl ?_
                            have w116 : Xi U6 882 3 = Xi T1 882 3 := (show Xi U6 882 3 = Xi T1 882 3 from by rw [eU6]; rfl)
                            exact ⟨hHU6, hFU6, _, rfl, ⟨by omega, by omega⟩, (by first | (have u := K117; exact tlc_wx L26.o (by omega) (by omega) (by omega) (by omega) e117 (by omega)) | (have u := K105; exact tlc_gx L26.o (by omega) (by omega) (by omega) (by omega) (by omega) o105.1 (by omega)) | (have u := e209; exact tlc_z L26.o (by omega) (by omega) (by omega) e209 (by unfold rg; omega) (by omega)) | exact tlc_x L26.o (by omega) (by omega) (by omega) (by omega))⟩
                · refine y_aload_n rfl rfl ?_
                  refine y_gfr rfl rfl rfl rfl rfl (hHT1.r 882 6 885 rfl) ?_
                  refine y_aload_n rfl rfl ?_
                  refine y_gfi rfl rfl rfl rfl rfl ?_
                  refine y_iload rfl rfl ?_
                  refine y_iastoreP (n := 20) rfl rfl (by unfold rg; omega) (fun w117 w118 => ?_)
                  obtain ⟨U7, eU7⟩ : ∃ T : sS, T = uI T1 885 (((Xi T1 882 3)).toNat) (Int32.ofInt v4) := ⟨_, rfl⟩
                  rw [← eU7]
                  have hHU7 : RI U7 := by rw [eU7]; exact RI_w hHT1
                  have hFU7 : FR md_co_takeText__p S U7 := by rw [eU7]; exact FR.wI hFT1 (mdf_i (r := (885, 886, 0, 100000)) (List.mem_of_getElem? (i := 2) rfl) (inR_i (by omega) (by omega) (by omega) (by omega)))
                  have w119 : Xi U7 885 (((Xi T1 882 3)).toNat) = v4 := by rw [eU7]; exact Xi_same (by unfold rg; omega)
                  have e97 := eU7
                  rw [show Xi T1 882 3 = Xi S 882 3 by omega] at e97
                  refine y_aload_n rfl rfl ?_
                  refine y_aload_n rfl rfl ?_
                  refine y_iload rfl rfl ?_
                  refine y_iconst rfl ?_
                  refine y_iadd rfl ?_
                  refine y_iload_n rfl rfl ?_
                  have w120 : Xi U7 882 3 = Xi T1 882 3 := (show Xi U7 882 3 = Xi T1 882 3 from by rw [eU7]; exact Xi_ne (by omega))
                  refine y_callV rfl rfl rfl (t_co_takeGap__p hHU7 t (v5 + 1) to ht ⟨by omega, by omega⟩ ⟨by omega, by omega⟩ (BYT_F hFU7 rfl ht hby) (by first | assumption | omega) _) ?_
                  rintro _ T8 ⟨hHT8, w123, z122, rfl, w122, o105_, w121⟩
                  have hFT8 : FR md_co_takeText__p S T8 := FR.tr hFU7 w123 rfl
                  show Pl _ _ _ _ _ _ [iv z122] _ _
                  have K105 : True := trivial
                  have o105 := gpo_F hFU7 rfl rfl ht o105_
                  clear o105_
                  have F105 := (by assumption : FR md_co_takeGap__p U7 T8)
                  refine y_istore rfl rfl rfl ?_
                  refine y_goto rfl rfl ?_
                  refine y_iload rfl rfl ?_
                  refine y_iconst rfl ?_
                  refine y_icmp_eq rfl rfl (by unfold rg; omega) (by unfold rg; omega) (fun w124 => ?_) (fun w125 => ?_)
                  · refine y_iconst rfl ?_
                    refine y_ireturn rfl rfl ?_
                    have w126 : Xi T8 882 3 = Xi T1 882 3 := (show Xi T8 882 3 = Xi U7 882 3 from w123.x _ _ rfl).trans ((show Xi U7 882 3 = Xi T1 882 3 from by rw [eU7]; exact Xi_ne (by omega)))
                    exact ⟨hHT8, hFT8, _, rfl, ⟨by omega, by omega⟩, (by first | (have u := K117; exact tlc_wx L26.o (by omega) (by omega) (by omega) (by omega) e117 (by omega)) | (have u := K105; exact tlc_gx L26.o (by omega) (by omega) (by omega) (by omega) (by omega) o105.1 (by omega)) | (have u := e209; exact tlc_z L26.o (by omega) (by omega) (by omega) e209 (by unfold rg; omega) (by omega)) | exact tlc_x L26.o (by omega) (by omega) (by omega) (by omega))⟩
                  · refine y_iload rfl rfl ?_
                    refine y_iload_n rfl rfl ?_
                    refine y_icmp_ge rfl rfl (by unfold rg; omega) (by unfold rg; omega) (fun w127 => ?_) (fun w128 => ?_)
                    · refine y_iinc rfl rfl rfl rfl ?_
                      have L193 : Hid (TLC S T8 t to from_ z122 (v4 + 1)) := by first | (have u := K117; exact tlc_w L26.o (by omega) (by omega) (by omega) (by omega) e117 (by omega) (c141 (by omega)) g141 e144) | exact tlc_g L26.o (by omega) (by omega) (by omega) (by omega) (by unfold rg; omega) (by omega) e97 F105 rfl o105 (by omega)
                      refine y_goto rfl rfl ?_
                      have w129 : Xi T8 882 3 = Xi T1 882 3 := (show Xi T8 882 3 = Xi U7 882 3 from w123.x _ _ rfl).trans ((show Xi U7 882 3 = Xi T1 882 3 from by rw [eU7]; exact Xi_ne (by omega)))
                      exact Pl_weak (ih26 (by omega) T8 hHT8 hFT8 ((v4 + 1)) (z122) (by omega) (by omega) (by omega) (by omega) (by first | exact L193 | exact L41 | exact tlc_0 A24.1 A24.2)) (by omega) (And.intro rfl (And.intro rfl (And.intro rfl (And.intro rfl (And.intro rfl (True.intro))))))
                    · refine y_aload_n rfl rfl ?_
                      refine y_iload rfl rfl ?_
                      refine y_baloadP (n := 5000) rfl (tp_sv (by assumption)) (lay_tp (by assumption)) (by decide) (by unfold rg; omega) (fun w130 w131 => ?_)
                      have w132 : -2147483648 ≤ (Xi T8 t ((z122).toNat)) ∧ (Xi T8 t ((z122).toNat)) ≤ 2147483647 := Xi_rgI
                      have y185 : Xi T8 t (z122).toNat = Xi S t (z122).toNat := congrFun (tp_F hFT8 rfl ht) _
                      refine y_bipush rfl rfl ?_
                      refine y_icmp_eq rfl rfl (by unfold rg; omega) (by unfold rg; omega) (fun w133 => ?_) (fun w134 => ?_)
                      · refine y_iinc rfl rfl rfl rfl ?_
                        have L193 : Hid (TLC S T8 t to from_ z122 (v4 + 1)) := by first | (have u := K117; exact tlc_w L26.o (by omega) (by omega) (by omega) (by omega) e117 (by omega) (c141 (by omega)) g141 e144) | exact tlc_g L26.o (by omega) (by omega) (by omega) (by omega) (by unfold rg; omega) (by omega) e97 F105 rfl o105 (by omega)
                        refine y_goto rfl rfl ?_
                        have w135 : Xi T8 882 3 = Xi T1 882 3 := (show Xi T8 882 3 = Xi U7 882 3 from w123.x _ _ rfl).trans ((show Xi U7 882 3 = Xi T1 882 3 from by rw [eU7]; exact Xi_ne (by omega)))
                        exact Pl_weak (ih26 (by omega) T8 hHT8 hFT8 ((v4 + 1)) (z122) (by omega) (by omega) (by omega) (by omega) (by first | exact L193 | exact L41 | exact tlc_0 A24.1 A24.2)) (by omega) (And.intro rfl (And.intro rfl (And.intro rfl (And.intro rfl (And.intro rfl (True.intro))))))
                      · refine y_iconst rfl ?_
                        refine y_ireturn rfl rfl ?_
                        have w136 : Xi T8 882 3 = Xi T1 882 3 := (show Xi T8 882 3 = Xi U7 882 3 from w123.x _ _ rfl).trans ((show Xi U7 882 3 = Xi T1 882 3 from by rw [eU7]; exact Xi_ne (by omega)))
                        exact ⟨hHT8, hFT8, _, rfl, ⟨by omega, by omega⟩, (by first | (have u := K117; exact tlc_wx L26.o (by omega) (by omega) (by omega) (by omega) e117 (by omega)) | (have u := K105; exact tlc_gx L26.o (by omega) (by omega) (by omega) (by omega) (by omega) o105.1 (by omega)) | (have u := e209; exact tlc_z L26.o (by omega) (by omega) (by omega) e209 (by unfold rg; omega) (by omega)) | exact tlc_x L26.o (by omega) (by omega) (by omega) (by omega))⟩
              · refine y_iconst rfl ?_
                refine y_ireturn rfl rfl ?_
                exact ⟨hHT1, hFT1, _, rfl, ⟨by omega, by omega⟩, (by first | (have u := K117; exact tlc_wx L26.o (by omega) (by omega) (by omega) (by omega) e117 (by omega)) | (have u := K105; exact tlc_gx L26.o (by omega) (by omega) (by omega) (by omega) (by omega) o105.1 (by omega)) | (have u := e209; exact tlc_z L26.o (by omega) (by omega) (by omega) e209 (by unfold rg; omega) (by omega)) | exact tlc_x L26.o (by omega) (by omega) (by omega) (by omega))⟩
        · refine y_iinc rfl rfl rfl rfl ?_
          have L41 : Hid (TLC S T1 t to from_ (v5 + 1) v4) := tlc_b L26.o (by omega) (by omega)
          refine y_goto rfl rfl ?_
          exact Pl_weak (ih26 (by omega) T1 hHT1 hFT1 (v4) ((v5 + 1)) (by omega) (by omega) (by omega) (by omega) (by first | exact L193 | exact L41 | exact tlc_0 A24.1 A24.2)) (by omega) (And.intro rfl (And.intro rfl (And.intro rfl (And.intro rfl (And.intro rfl (True.intro))))))
  refine y_iconst rfl ?_
  refine y_istore rfl rfl rfl ?_
  refine y_iload_n rfl rfl ?_
  refine y_istore rfl rfl rfl ?_
  refine y_aload_n rfl rfl ?_
  refine y_gfr rfl rfl rfl rfl rfl (hH.r 882 6 885 rfl) ?_
  refine y_aload_n rfl rfl ?_
  refine y_gfi rfl rfl rfl rfl rfl ?_
  refine y_iconst rfl ?_
  refine y_iastoreP (n := 20) rfl rfl (by unfold rg; omega) (fun w137 w138 => ?_)
  obtain ⟨U9, eU9⟩ : ∃ T : sS, T = uI S 885 (((Xi S 882 3)).toNat) (Int32.ofInt (-1)) := ⟨_, rfl⟩
  rw [← eU9]
  have hHU9 : RI U9 := by rw [eU9]; exact RI_w hH
  have hFU9 : FR md_co_takeText__p S U9 := by rw [eU9]; exact FR.wI hF (mdf_i (r := (885, 886, 0, 100000)) (List.mem_of_getElem? (i := 2) rfl) (inR_i (by omega) (by omega) (by omega) (by omega)))
  have w139 : Xi U9 885 (((Xi S 882 3)).toNat) = (-1) := by rw [eU9]; exact Xi_same (by unfold rg; omega)
  refine y_aload_n rfl rfl ?_
  refine y_gfr rfl rfl rfl rfl rfl (hHU9.r 882 7 886 rfl) ?_
  refine y_aload_n rfl rfl ?_
  refine y_gfi rfl rfl rfl rfl rfl ?_
  have w140 : (Xi U9 882 3) = (Xi S 882 3) := (show Xi U9 882 3 = Xi S 882 3 from by rw [eU9]; exact Xi_ne (by omega))
  rw [w140]
  refine y_iconst rfl ?_
  refine y_iastoreP (n := 20) rfl rfl (by unfold rg; omega) (fun w141 w142 => ?_)
  obtain ⟨U10, eU10⟩ : ∃ T : sS, T = uI U9 886 (((Xi S 882 3)).toNat) (Int32.ofInt (-1)) := ⟨_, rfl⟩
  rw [← eU10]
  have hHU10 : RI U10 := by rw [eU10]; exact RI_w hHU9
  have hFU10 : FR md_co_takeText__p S U10 := by rw [eU10]; exact FR.wI hFU9 (mdf_i (r := (886, 887, 0, 100000)) (List.mem_of_getElem? (i := 3) rfl) (inR_i (by omega) (by omega) (by omega) (by omega)))
  have w143 : Xi U10 886 (((Xi S 882 3)).toNat) = (-1) := by rw [eU10]; exact Xi_same (by unfold rg; omega)
  have A24 : Xi U10 885 (Xi S 882 3).toNat = -1 ∧ Xi U10 886 (Xi S 882 3).toNat = -1 := ⟨by rw [eU10, Xi_ne (by omega), eU9]; exact Xi_same (by unfold rg; omega), by rw [eU10]; exact Xi_same (by unfold rg; omega)⟩
  have w144 : Xi U10 882 3 = Xi S 882 3 := (show Xi U10 882 3 = Xi U9 882 3 from by rw [eU10]; exact Xi_ne (by omega)).trans ((show Xi U9 882 3 = Xi S 882 3 from by rw [eU9]; exact Xi_ne (by omega)))
  exact Pl_weak (C26 fu (by omega) U10 hHU10 hFU10 (0) (from_) (by omega) (by omega) (by omega) (by omega) (by first | exact L193 | exact L41 | exact tlc_0 A24.1 A24.2)) (by omega) (And.intro rfl (And.intro rfl (And.intro rfl (And.intro rfl (And.intro rfl (True.intro))))))
end
section
/-! PARTIAL rows: strings -/
section PSTR
variable {f : Nat} {lay : Nat → Nat × Nat} {d pc : Nat} {q : mT} {L : List (Nat × Value)} {st : List Value} {S : sS} {Q : pst}
theorem y_gst {ix j : Nat} {b : Bool} (hc : lk q.2.2.2.2.2 pc = some (.getstatic ix)) (hf : fLs q.2.2.2.2.1 ix = some (91, j, b)) (h : Pl f lay d q (pc + 3) L (iv 1 :: st) S Q) : Pl f lay d q pc L st S Q :=
  Pl_s hc rfl (fun lv ha => ⟨lv, by
    show (match fLs q.2.2.2.2.1 ix with
      | some (ci, _, _) => bif Nat.beq ci 91 then some (pc + 3, lv, Value.int 1 :: st, S) else none
      | none => none) = _
    rw [hf]; rfl, ha⟩) h
theorem y_strV {ix i : Nat} {b : Bool} (hc : lk q.2.2.2.2.2 pc = some (.getfield ix)) (hf : fLs q.2.2.2.2.1 ix = some (90, 0, b)) (hi : (strT[i]?).isSome = true) (h : Pl f lay d q (pc + 3) L (.ref (SV + i) :: st) S Q) : Pl f lay d q pc L (.ref (SB + i) :: st) S Q :=
  Pl_s hc rfl (fun lv ha => ⟨lv, by
    show (match fLs q.2.2.2.2.1 ix with
      | some (ci, j, _) => bif Nat.blt ci 90 then (bif layIs lay (SB + i) 0 ci then some (pc + 3, lv, sv (fT ci j) (S.1 (SB + i) j) (S.2.1 (SB + i) j) (S.2.2 (SB + i) j) :: st, S) else none) else (bif Nat.beq ci 90 && (Nat.ble SB (SB + i) && (strT[SB + i - SB]?).isSome) then some (pc + 3, lv, (bif Nat.beq j 0 then Value.ref (SV + (SB + i - SB)) else Value.int 0) :: st, S) else none)
      | none => none) = _
    rw [hf]
    show (bif Nat.beq 90 90 && (Nat.ble SB (SB + i) && (strT[SB + i - SB]?).isSome) then some (pc + 3, lv, Value.ref (SV + (SB + i - SB)) :: st, S) else none) = _
    rw [sb_s hi, show SB + i - SB = i by omega]; rfl, ha⟩) h
theorem y_strC {ix i : Nat} {b : Bool} (hc : lk q.2.2.2.2.2 pc = some (.getfield ix)) (hf : fLs q.2.2.2.2.1 ix = some (90, 1, b)) (hi : (strT[i]?).isSome = true) (h : Pl f lay d q (pc + 3) L (iv 0 :: st) S Q) : Pl f lay d q pc L (.ref (SB + i) :: st) S Q :=
  Pl_s hc rfl (fun lv ha => ⟨lv, by
    show (match fLs q.2.2.2.2.1 ix with
      | some (ci, j, _) => bif Nat.blt ci 90 then (bif layIs lay (SB + i) 0 ci then some (pc + 3, lv, sv (fT ci j) (S.1 (SB + i) j) (S.2.1 (SB + i) j) (S.2.2 (SB + i) j) :: st, S) else none) else (bif Nat.beq ci 90 && (Nat.ble SB (SB + i) && (strT[SB + i - SB]?).isSome) then some (pc + 3, lv, (bif Nat.beq j 0 then Value.ref (SV + (SB + i - SB)) else Value.int 0) :: st, S) else none)
      | none => none) = _
    rw [hf]
    show (bif Nat.beq 90 90 && (Nat.ble SB (SB + i) && (strT[SB + i - SB]?).isSome) then some (pc + 3, lv, Value.int 0 :: st, S) else none) = _
    rw [sb_s hi]; rfl, ha⟩) h
theorem y_strL {i n : Nat} {x : String × Nat × String × List Int32} (hc : lk q.2.2.2.2.2 pc = some .arraylength) (hi : strT[i]? = some x) (hn : x.2.2.2.length = n) (h : Pl f lay d q (pc + 1) L (iv (n : Int) :: st) S Q) : Pl f lay d q pc L (.ref (SV + i) :: st) S Q :=
  Pl_s hc rfl (fun lv ha => ⟨lv, by
    show (bif Nat.ble SV (SV + i) then _ else _) = _
    rw [Nat.ble_eq_true_of_le (show SV ≤ SV + i by omega), cond_true, show SV + i - SV = i by omega, hi]
    show some (pc + 1, lv, Value.int (Int32.ofNat x.2.2.2.length) :: st, S) = _
    rw [hn, alen_z]; rfl, ha⟩) h
theorem y_strB {i n : Nat} {z : Int} {x : String × Nat × String × List Int32} (hc : lk q.2.2.2.2.2 pc = some .baload) (hi : strT[i]? = some x) (hn : x.2.2.2.length = n) (h0 : 0 ≤ z) (h1 : z < n) (hz : rg z) (h : Pl f lay d q (pc + 1) L (iv (x.2.2.2.getD z.toNat 0).toInt :: st) S Q) : Pl f lay d q pc L (iv z :: .ref (SV + i) :: st) S Q :=
  Pl_s hc rfl (fun lv ha => ⟨lv, by
    show (bif Nat.ble SV (SV + i) then _ else _) = _
    rw [Nat.ble_eq_true_of_le (show SV ≤ SV + i by omega), cond_true, show SV + i - SV = i by omega, hi]
    show (bif inb (Int32.ofInt z) x.2.2.2.length then some (pc + 1, lv, Value.int (x.2.2.2.getD (Int32.ofInt z).toNatClampNeg 0) :: st, S) else none) = _
    rw [hn, inb_i h0 h1 hz, ix_i hz]
    show some (pc + 1, lv, Value.int (x.2.2.2.getD z.toNat 0) :: st, S) = _
    unfold iv
    rw [ofI_toI], ha⟩) h
theorem y_i2cV {x : Int} (hc : lk q.2.2.2.2.2 pc = some .i2c) (h : Pl f lay d q (pc + 1) L (iv (((Int32.ofInt x).toUInt32 % 65536).toInt32).toInt :: st) S Q) : Pl f lay d q pc L (iv x :: st) S Q :=
  Pl_s hc rfl (fun lv ha => ⟨lv, by
    show some (pc + 1, lv, Value.int (((Int32.ofInt x).toUInt32 % 65536).toInt32) :: st, S) = some (pc + 1, lv, Value.int (Int32.ofInt (((Int32.ofInt x).toUInt32 % 65536).toInt32).toInt) :: st, S)
    rw [ofI_toI], ha⟩) h
theorem i2c_r {x : Int} : retI (some .char) (Int32.ofInt (((Int32.ofInt x).toUInt32 % 65536).toInt32).toInt) = true := by
  rw [ofI_toI]
  unfold retI
  refine decide_eq_true ?_
  show Value.int (((((Int32.ofInt x).toUInt32 % 65536).toInt32).toUInt32 % 65536).toInt32) = _
  have e : ∀ u : UInt32, (u % 65536) % 65536 = u % 65536 := fun u => UInt32.toNat_inj.mp (by simp)
  rw [show (((Int32.ofInt x).toUInt32 % 65536).toInt32).toUInt32 = (Int32.ofInt x).toUInt32 % 65536 from rfl, e]
end PSTR
/-- a letter of a string, as the JDK's rows read it -/
def chS (x : String × Nat × String × List Int32) (a : Int) : Int := (((Int32.ofInt (iandF (x.2.2.2.getD a.toNat 0).toInt 255)).toUInt32 % 65536).toInt32).toInt
section PSTS
variable {S : sS} {i : Nat} {x : String × Nat × String × List Int32}
theorem t_js_coder__p (h : strT[i]? = some x) (d : Nat) : Mp lay0 (d + 1) m_js_coder [.ref (SB + i)] S (fun r S1 => S = S1 ∧ r = some (iv 0)) := by
  refine Mp_R rfl rfl (fun fu => ?_)
  refine y_gst rfl rfl ?_
  refine y_if_eq rfl rfl (by unfold rg; omega) (fun a => absurd a (by omega)) (fun a => ?_)
  refine y_aload_n rfl rfl ?_
  refine y_strC rfl rfl (str_is h) ?_
  refine y_goto rfl rfl ?_
  refine y_ireturn rfl rfl ?_
  exact ⟨rfl, rfl⟩
theorem t_js_isLatin1__p (h : strT[i]? = some x) (d : Nat) : Mp lay0 (d + 1) m_js_isLatin1 [.ref (SB + i)] S (fun r S1 => S = S1 ∧ r = some (iv 1)) := by
  refine Mp_R rfl rfl (fun fu => ?_)
  refine y_gst rfl rfl ?_
  refine y_if_eq rfl rfl (by unfold rg; omega) (fun a => absurd a (by omega)) (fun a => ?_)
  refine y_aload_n rfl rfl ?_
  refine y_strC rfl rfl (str_is h) ?_
  refine y_if_ne rfl rfl (by unfold rg; omega) (fun a => absurd a (by omega)) (fun a => ?_)
  refine y_iconst rfl ?_
  refine y_goto rfl rfl ?_
  refine y_ireturn rfl rfl ?_
  exact ⟨rfl, rfl⟩
theorem t_js_length__p (h : strT[i]? = some x) (d : Nat) : Mp lay0 (d + 2) m_js_length [.ref (SB + i)] S (fun r S1 => S = S1 ∧ r = some (iv x.2.2.2.length)) := by
  have hl := str_lenB x (List.mem_of_getElem? h)
  refine Mp_R rfl rfl (fun fu => ?_)
  refine y_aload_n rfl rfl ?_
  refine y_strV rfl rfl (str_is h) ?_
  refine y_strL rfl h rfl ?_
  refine y_aload_n rfl rfl ?_
  refine y_callT rfl rfl (cOkT0 (str_is h) rfl) (t_js_coder__p h _) ?_
  rintro _ _ ⟨rfl, rfl⟩
  show Pl _ _ _ _ _ _ [iv 0, iv (x.2.2.2.length : Int)] _ _
  refine Pl_s (i := .ishr) (pc1 := 10) (st1 := [iv (x.2.2.2.length : Int)]) (S1 := S) rfl rfl (fun lv ha => ⟨lv, ?_, ha⟩) ?_
  · show some (9 + 1, lv, [Value.int (Int32.ofInt (x.2.2.2.length : Int) >>> (Int32.ofInt 0 &&& 31))], S) = _
    rw [shr0 (by unfold rg; omega)]
    rfl
  · refine y_ireturn rfl rfl ?_
    exact ⟨rfl, rfl⟩
theorem t_js_checkIndex__p {a n : Int} (h0 : 0 ≤ a) (h1 : a < n) (ha : rg a) (hn : rg n) (d : Nat) : Mp lay0 (d + 1) m_js_checkIndex [iv a, iv n] S (fun r S1 => S = S1 ∧ r = none) := by
  intro G r S1 e
  have e2 : ckI [iv a, iv n] S = some (r, S1) := e
  have e3 : (bif decide (¬ Int32.ofInt a < 0) && decide (Int32.ofInt a < Int32.ofInt n) then some ((none : Option Value), S) else none) = some (r, S1) := e2
  have e1 : ¬ Int32.ofInt a < 0 := fun q => by
    have := (i32_lt ha rg0).mp q
    omega
  rw [decide_eq_true e1, decide_eq_true ((i32_lt ha hn).mpr h1)] at e3
  injection e3 with e4
  injection e4 with e5 e6
  exact ⟨e6, e5.symm⟩
theorem t_jl_charAt__p (h : strT[i]? = some x) {a : Int} (h0 : 0 ≤ a) (h1 : a < x.2.2.2.length) (d : Nat) : Mp lay0 (d + 2) m_jl_charAt [.ref (SV + i), iv a] S (fun r S1 => S = S1 ∧ r = some (iv (chS x a))) := by
  have hl := str_lenB x (List.mem_of_getElem? h)
  refine Mp_R rfl rfl (fun fu => ?_)
  refine y_iload_n rfl rfl ?_
  refine y_aload_n rfl rfl ?_
  refine y_strL rfl h rfl ?_
  refine y_callS rfl rfl (by decide) rfl (t_js_checkIndex__p h0 h1 (by unfold rg; omega) (by unfold rg; omega) _) ?_
  rintro _ _ ⟨rfl, rfl⟩
  show Pl _ _ _ _ _ _ [] _ _
  refine y_aload_n rfl rfl ?_
  refine y_iload_n rfl rfl ?_
  refine y_strB rfl h rfl h0 h1 (by unfold rg; omega) ?_
  refine y_sipush rfl rfl ?_
  refine y_iandF rfl ?_
  refine y_i2cV rfl ?_
  refine y_ireturn rfl i2c_r ?_
  exact ⟨rfl, rfl⟩
theorem t_js_charAt__p (h : strT[i]? = some x) {a : Int} (h0 : 0 ≤ a) (h1 : a < x.2.2.2.length) (d : Nat) : Mp lay0 (d + 3) m_js_charAt [.ref (SB + i), iv a] S (fun r S1 => S = S1 ∧ r = some (iv (chS x a))) := by
  refine Mp_R rfl rfl (fun fu => ?_)
  refine y_aload_n rfl rfl ?_
  refine y_callT rfl rfl (cOkT0 (str_is h) rfl) (t_js_isLatin1__p h _) ?_
  rintro _ _ ⟨rfl, rfl⟩
  show Pl _ _ _ _ _ _ [iv 1] _ _
  refine y_if_eq rfl rfl (by unfold rg; omega) (fun a => absurd a (by omega)) (fun a => ?_)
  refine y_aload_n rfl rfl ?_
  refine y_strV rfl rfl (str_is h) ?_
  refine y_iload_n rfl rfl ?_
  refine y_callS rfl rfl (by decide) rfl (t_jl_charAt__p h h0 h1 _) ?_
  rintro _ _ ⟨rfl, rfl⟩
  show Pl _ _ _ _ _ _ [iv (chS x _)] _ _
  refine y_ireturn rfl i2c_r ?_
  exact ⟨rfl, rfl⟩
end PSTS
def cS7 (x : String × Nat × String × List Int32) : Nat → Int
  | 0 => 0
  | n + 1 => cS7 x n * 27 + lt7 (chS x n)
def cS5 (x : String × Nat × String × List Int32) : Nat → Int
  | 0 => 0
  | n + 1 => lorF (lshlF (cS5 x n) 5) (chS x n - 96)
theorem chS_all : (strT.all (fun q => (List.range q.2.2.2.length).all (fun k => decide (0 ≤ chS q k ∧ chS q k ≤ 127)))) = true := by decide +kernel
theorem chS_b {i : Nat} {x : String × Nat × String × List Int32} {a : Int} (h : strT[i]? = some x) (h0 : 0 ≤ a) (h1 : a < x.2.2.2.length) : 0 ≤ chS x a ∧ chS x a ≤ 127 := by
  have t := List.all_eq_true.mp chS_all x (List.mem_of_getElem? h)
  have u := List.all_eq_true.mp t a.toNat (List.mem_range.mpr (by omega))
  rw [show ((a.toNat : Nat) : Int) = a by omega] at u
  exact of_decide_eq_true u
theorem cS7_r {x : String × Nat × String × List Int32} : ∀ n : Nat, 0 ≤ cS7 x n ∧ cS7 x n < 27 ^ n
  | 0 => ⟨by show (0 : Int) ≤ 0; omega, by show (0 : Int) < 27 ^ 0; decide⟩
  | n + 1 => by
    have i := cS7_r (x := x) n
    have l := lt7_r (chS x n)
    show 0 ≤ cS7 x n * 27 + lt7 (chS x n) ∧ cS7 x n * 27 + lt7 (chS x n) < 27 ^ (n + 1)
    rw [Int.pow_succ]
    omega
theorem cS7_g {x : String × Nat × String × List Int32} {n : Nat} (h : n ≤ 12) : rgL (cS7 x n) := by
  have a := cS7_r (x := x) n
  have b := pw27 (n := n) (by omega)
  unfold rgL
  omega

abbrev Q_vo_codeOf__p (S : sS) (i : Nat) (xi : String × Nat × String × List Int32) : pst := fun r S1 => S = S1 ∧ (∃ z : Int, r = some (jw z) ∧ (z = cS7 xi xi.2.2.2.length) ∧ (rgL z))
set_option maxRecDepth 100000 in
theorem t_vo_codeOf__p {S : sS} (hH : RI S) (i : Nat) (xi : String × Nat × String × List Int32) (hi : strT[i]? = some xi) (hl : xi.2.2.2.length ≤ 12) (d : Nat) : Mp lay0 (d + 4) m_vo_codeOf [.ref (SB + i)] S (Q_vo_codeOf__p S i xi) := by
  refine Mp_R rfl rfl (fun fu => ?_)
  have hsli := str_sm hi
  have C4 : ∀ (n4 : Nat) (_ : n4 ≤ fu) (v1 : Int) (v3 : Int), (0 ≤ v3 ∧ v3 ≤ 400) → (0 ≤ v3 ∧ v3 ≤ (xi.2.2.2.length : Int)) → (v1 = cS7 xi (v3).toNat) → Pl n4 lay0 (d + 3) m_vo_codeOf 4 [(0, .ref (SB + i)), (1, jw v1), (3, iv v3)] [] S (Q_vo_codeOf__p S i xi) := by
    intro n4
    induction n4 with
    | zero => intros; exact Pl_0
    | succ n4 ih4 =>
      intro hm4 v1 v3 w1 w2 h4
      refine ys_iload_n rfl rfl ?_
      refine y_aload_n rfl rfl ?_
      refine y_callT rfl rfl (cOkT0 (str_is hi) rfl) (t_js_length__p hi _) ?_
      rintro _ _ ⟨rfl, rfl⟩
      show Pl _ _ _ _ _ _ [iv (xi.2.2.2.length : Int), iv v3] _ _
      refine y_icmp_ge rfl rfl (by unfold rg; omega) (by unfold rg; omega) (fun w4 => ?_) (fun w5 => ?_)
      · refine y_lload_n rfl rfl ?_
        refine y_lreturn rfl rfl ?_
        exact ⟨rfl, _, rfl, (by rw [h4, show (v3).toNat = xi.2.2.2.length by omega]), (by rw [h4]; exact cS7_g (by omega))⟩
      · refine y_lload_n rfl rfl ?_
        refine y_ldc2 (z := 27) rfl rfl ?_
        refine y_lmul rfl ?_
        refine y_aload_n rfl rfl ?_
        refine y_iload_n rfl rfl ?_
        refine y_callT rfl rfl (cOkT1 (str_is hi) rfl) (t_js_charAt__p hi (by omega) (by omega) _) ?_
        rintro _ _ ⟨rfl, rfl⟩
        have w6 := chS_b (a := v3) hi (by omega) (by omega)
        show Pl _ _ _ _ _ _ [iv (chS xi v3), jw (v1 * 27)] _ _
        refine y_callS rfl rfl (by decide) rfl (t_rs_letterOf__p hH (chS xi v3) ⟨by omega, by omega⟩ _) ?_
        rintro _ _ ⟨rfl, z7, rfl, w7, q22⟩
        show Pl _ _ _ _ _ _ [iv z7, jw (v1 * 27)] _ _
        refine y_i2l rfl (by unfold rg; omega) ?_
        refine y_ladd rfl ?_
        refine y_lstore_n rfl rfl rfl rfl ?_
        refine y_iinc rfl rfl rfl rfl ?_
        refine y_goto rfl rfl ?_
        exact Pl_weak (ih4 (by omega) (((v1 * 27) + z7)) ((v3 + 1)) (by omega) (by omega) (by first | rfl | (rw [show (v3 + 1).toNat = (v3).toNat + 1 by omega]; show _ = cS7 xi (v3).toNat * 27 + lt7 (chS xi (((v3).toNat : Nat) : Int)); rw [show (((v3).toNat : Nat) : Int) = v3 by omega, ← h4, q22]))) (by omega) (And.intro rfl (And.intro rfl (And.intro rfl (True.intro))))
  refine y_lconst (z := 0) rfl rfl ?_
  refine y_lstore_n rfl rfl rfl rfl ?_
  refine y_iconst rfl ?_
  refine y_istore_n rfl rfl rfl ?_
  exact Pl_weak (C4 fu (by omega) (0) (0) (by omega) (by omega) (by first | rfl | (rw [show (v3 + 1).toNat = (v3).toNat + 1 by omega]; show _ = cS7 xi (v3).toNat * 27 + lt7 (chS xi (((v3).toNat : Nat) : Int)); rw [show (((v3).toNat : Nat) : Int) = v3 by omega, ← h4, q22]))) (by omega) (And.intro rfl (And.intro rfl (And.intro rfl (True.intro))))
abbrev Q_mo_packed__p (S : sS) (i : Nat) (xi : String × Nat × String × List Int32) : pst := fun r S1 => S = S1 ∧ (∃ z : Int, r = some (jw z) ∧ (z = cS5 xi xi.2.2.2.length))
set_option maxRecDepth 100000 in
theorem t_mo_packed__p {S : sS} (hH : RI S) (i : Nat) (xi : String × Nat × String × List Int32) (hi : strT[i]? = some xi) (d : Nat) : Mp lay0 (d + 4) m_mo_packed [.ref (SB + i)] S (Q_mo_packed__p S i xi) := by
  refine Mp_R rfl rfl (fun fu => ?_)
  have hsli := str_sm hi
  have C4 : ∀ (n4 : Nat) (_ : n4 ≤ fu) (v1 : Int) (v3 : Int), (0 ≤ v3 ∧ v3 ≤ 400) → (0 ≤ v3 ∧ v3 ≤ (xi.2.2.2.length : Int)) → (v1 = cS5 xi (v3).toNat) → Pl n4 lay0 (d + 3) m_mo_packed 4 [(0, .ref (SB + i)), (1, jw v1), (3, iv v3)] [] S (Q_mo_packed__p S i xi) := by
    intro n4
    induction n4 with
    | zero => intros; exact Pl_0
    | succ n4 ih4 =>
      intro hm4 v1 v3 w1 w2 h4
      refine ys_iload_n rfl rfl ?_
      refine y_aload_n rfl rfl ?_
      refine y_callT rfl rfl (cOkT0 (str_is hi) rfl) (t_js_length__p hi _) ?_
      rintro _ _ ⟨rfl, rfl⟩
      show Pl _ _ _ _ _ _ [iv (xi.2.2.2.length : Int), iv v3] _ _
      refine y_icmp_ge rfl rfl (by unfold rg; omega) (by unfold rg; omega) (fun w4 => ?_) (fun w5 => ?_)
      · refine y_lload_n rfl rfl ?_
        refine y_lreturn rfl rfl ?_
        exact ⟨rfl, _, rfl, (by rw [h4, show (v3).toNat = xi.2.2.2.length by omega])⟩
      · refine y_lload_n rfl rfl ?_
        refine y_iconst rfl ?_
        refine y_lshlF rfl ?_
        have w6 : rgL (lshlF v1 5) := lshlF_rg
        refine y_aload_n rfl rfl ?_
        refine y_iload_n rfl rfl ?_
        refine y_callT rfl rfl (cOkT1 (str_is hi) rfl) (t_js_charAt__p hi (by omega) (by omega) _) ?_
        rintro _ _ ⟨rfl, rfl⟩
        have w7 := chS_b (a := v3) hi (by omega) (by omega)
        show Pl _ _ _ _ _ _ [iv (chS xi v3), jw (lshlF v1 5)] _ _
        refine y_bipush rfl rfl ?_
        refine y_isub rfl ?_
        refine y_i2l rfl (by unfold rg; omega) ?_
        refine y_lorF rfl ?_
        have w8 : rgL (lorF (lshlF v1 5) ((chS xi v3) - 96)) := lorF_rg
        refine y_lstore_n rfl rfl rfl rfl ?_
        refine y_iinc rfl rfl rfl rfl ?_
        refine y_goto rfl rfl ?_
        exact Pl_weak (ih4 (by omega) ((lorF (lshlF v1 5) ((chS xi v3) - 96))) ((v3 + 1)) (by omega) (by omega) (by first | rfl | (rw [show (v3 + 1).toNat = (v3).toNat + 1 by omega]; show _ = lorF (lshlF (cS5 xi (v3).toNat) 5) (chS xi (((v3).toNat : Nat) : Int) - 96); rw [show (((v3).toNat : Nat) : Int) = v3 by omega, ← h4]))) (by omega) (And.intro rfl (And.intro rfl (And.intro rfl (True.intro))))
  refine y_lconst (z := 0) rfl rfl ?_
  refine y_lstore_n rfl rfl rfl rfl ?_
  refine y_iconst rfl ?_
  refine y_istore_n rfl rfl rfl ?_
  exact Pl_weak (C4 fu (by omega) (0) (0) (by omega) (by omega) (by first | rfl | (rw [show (v3 + 1).toNat = (v3).toNat + 1 by omega]; show _ = lorF (lshlF (cS5 xi (v3).toNat) 5) (chS xi (((v3).toNat : Nat) : Int) - 96); rw [show (((v3).toNat : Nat) : Int) = v3 by omega, ← h4]))) (by omega) (And.intro rfl (And.intro rfl (And.intro rfl (True.intro))))
end
section
/-! 1: the class understands -/
def mnG (S : sS) : Int := if 1 ≤ Xi S 882 10 ∧ Xi S 882 10 ≤ 3 then mnR S 888 0 (Xi S 882 10).toNat else -1
def SUI (S S1 : sS) (z a : Int) : Prop :=
  (Xi S 19 a.toNat = -1 ∨ Xi S 885 (Xi S 882 3).toNat = -1 → (z = 1 → Xi S 19 a.toNat = -1 ∧ Xi S 885 (Xi S 882 3).toNat = -1) ∧ (z = 0 → ¬ (Xi S 19 a.toNat = -1 ∧ Xi S 885 (Xi S 882 3).toNat = -1)) ∧ S1 = S) ∧
  (Xi S 19 a.toNat = -2 → Xi S 885 (Xi S 882 3).toNat ≠ -1 → (z = 1 → Xi S 882 10 = 1 ∧ Xj S 888 0 = 1230908633051) ∧ (z = 0 → ¬ (Xi S 882 10 = 1 ∧ Xj S 888 0 = 1230908633051)) ∧ S1 = uI S 886 (Xi S 882 3).toNat (Int32.ofInt (-2))) ∧
  (Xi S 19 a.toNat ≠ -1 → Xi S 19 a.toNat ≠ -2 → Xi S 885 (Xi S 882 3).toNat ≠ -1 → (z = 1 → mnG S / 256 = 0 ∧ isK S (mnG S % 256) (Xi S 19 a.toNat) ≠ 0) ∧ (z = 0 → ¬ (mnG S / 256 = 0 ∧ isK S (mnG S % 256) (Xi S 19 a.toNat) ≠ 0)) ∧ S1 = uI S 886 (Xi S 882 3).toNat (Int32.ofInt (mnG S % 256)))
theorem isK_F {l : List rec} {S T : sS} (h : FR l S T) (e : kdis l [(6, 7)] = true) (k o : Int) : isK T k o = isK S k o := by
  have g : ∀ n k, isKn T o n k = isKn S o n k := fun n => by
    induction n with
    | zero => intro k; rfl
    | succ n ih => intro k; unfold isKn; rw [(h.smk e).x 6 rfl, ih]
  exact g 16 k
theorem gwk_len {B : Nat → Int} {kf : Int → Int → Prop} {to : Int} : ∀ (n : Nat) (i : Int) (l : List (Int × Int)) (r : Int × List (Int × Int)), gWk B kf to n i l = some r → (r.2.length : Int) ≤ l.length + n
  | 0, i, l, r, h => by cases h
  | n + 1, i, l, r, h => by
    rw [gWk] at h
    by_cases a : to ≤ i
    · rw [if_pos a] at h; injection h with h; rw [← h]; show (l.length : Int) ≤ _; omega
    rw [if_neg a] at h
    by_cases b : B i.toNat = 93
    · rw [if_pos b] at h
      by_cases c : l = []
      · rw [if_pos c] at h; injection h with h; rw [← h]; show (l.length : Int) ≤ _; omega
      · rw [if_neg c] at h; injection h with h; rw [← h]; show (l.length : Int) ≤ _; omega
    rw [if_neg b] at h
    by_cases c : B i.toNat = 32
    · rw [if_pos c] at h; have := gwk_len n _ _ r h; omega
    rw [if_neg c] at h
    by_cases d : we7 B to i = i ∨ 12 < we7 B to i - i ∨ ¬ kf i (we7 B to i)
    · rw [if_pos d] at h; injection h with h; rw [← h]; show (l.length : Int) ≤ _; omega
    rw [if_neg d] at h
    have := gwk_len n _ _ r h
    rw [List.length_append] at this
    simp only [List.length_cons, List.length_nil] at this
    omega
theorem gwv_len {B : Nat → Int} {kf : Int → Int → Prop} {to i : Int} (h : (to - i).toNat < 5000) : ((gWv B kf to i).2.length : Int) ≤ 5000 := by
  obtain ⟨r, e⟩ := gw_end (B := B) (kf := kf) (to := to) ((to - i).toNat + 1) i [] (by omega)
  have u := gw_V e (by omega)
  have w := gwk_len _ _ _ _ e
  rw [← u]
  simp only [List.length_nil] at w
  omega
theorem tw_g {B : Nat → Int} {kf : Int → Int → Prop} {to : Int} (hb : to < 5000) : ∀ (n : Nat) (i : Int) (l : List (Int × Int)) (gi : Int) (g : List (Int × Int)) (r : Int × List (Int × Int) × Int × List (Int × Int)), 0 ≤ i → (g.length : Int) ≤ 5000 → tWk B kf to n i l gi g = some r → (r.2.2.2.length : Int) ≤ 5000
  | 0, i, l, gi, g, r, h0, hg, h => by cases h
  | n + 1, i, l, gi, g, r, h0, hg, h => by
    rw [tWk] at h
    by_cases a : to ≤ i
    · rw [if_pos a] at h; injection h with h; rw [← h]; exact hg
    rw [if_neg a] at h
    by_cases b : B i.toNat = 32
    · rw [if_pos b] at h; exact tw_g hb n _ _ _ _ r (by omega) hg h
    rw [if_neg b] at h
    by_cases c : l.length = 8 ∨ (B i.toNat = 91 ∧ gi ≠ -1)
    · rw [if_pos c] at h; injection h with h; rw [← h]; exact hg
    rw [if_neg c] at h
    by_cases d : B i.toNat = 91
    · rw [if_pos d] at h
      by_cases e : (gWv B kf to (i + 1)).1 = -1 ∨ ((gWv B kf to (i + 1)).1 < to ∧ B (gWv B kf to (i + 1)).1.toNat ≠ 32)
      · rw [if_pos e] at h; injection h with h; rw [← h]; exact hg
      · rw [if_neg e] at h
        have u := gwv_r (B := B) (kf := kf) (to := to) (i := i + 1) (by omega)
        exact tw_g hb n _ _ _ _ r (by omega) (gwv_len (by omega)) h
    rw [if_neg d] at h
    by_cases e : we7 B to i = i ∨ 12 < we7 B to i - i ∨ (we7 B to i < to ∧ B (we7 B to i).toNat ≠ 32)
    · rw [if_pos e] at h; injection h with h; rw [← h]; exact hg
    · rw [if_neg e] at h
      have u := we7_b (B := B) (e := to) (p := i)
      exact tw_g hb n _ _ _ _ r (by omega) hg h
theorem txo_g {S T : sS} {t : Nat} {a to z : Int} (hb : 0 ≤ a ∧ to < 5000) (o : TXO S T t a to z) (hz : z = 1) (hg : Xi T 885 (Xi S 882 3).toNat ≠ -1) : 0 ≤ Xi T 882 10 ∧ Xi T 882 10 ≤ 5000 := by
  have x := (o.2 hz).2
  have w := (x.2.2.2.2.1 (by rw [← x.1]; exact hg)).1
  obtain ⟨y, e⟩ := twk_e (B := Xi S t) (kf := kf7 S t) (to := to) (by omega) 6000 a [] (-1) [] hb.1 (by omega)
  have u := tw_V e ⟨hb.1, by omega⟩
  have v := tw_g hb.2 _ _ _ _ _ _ hb.1 (by simp only [List.length_nil]; omega) e
  rw [u] at v
  omega
def TUN (h1 h2 : List rec) (S S1 : sS) (ts : Nat) (z a f to : Int) : Prop :=
  (20 ≤ Xi S 882 3 → z = 0 ∧ FTO S S1 9 1) ∧
  (Xi S 882 3 < 20 → ∃ (T : sS) (x : Int), FR h1 S T ∧ TXO S T ts f to x ∧
    ((x = 0 ∧ z = 0 ∧ FTO S S1 8 1) ∨ (x = 1 ∧ a = -1 ∧ z = 0 ∧ FTO S S1 4 3) ∨
     (x = 1 ∧ a ≠ -1 ∧ ∃ (U : sS) (y : Int), FR h2 T U ∧ SUI T U y a ∧ ((y = 0 ∧ z = 0 ∧ FTO S S1 8 1) ∨ (y = 1 ∧ z = 1 ∧ S1 = uI (uI U 883 (Xi S 882 3).toNat (Int32.ofInt a)) 882 3 (Int32.ofInt (Xi S 882 3 + 1)))))))

def md_co_addAs__p : List rec := [(882, 883, 3, 4), (883, 884, 0, 100000)]
abbrev Q_co_addAs__p (S : sS) (act : Int) : pst := fun r S1 => RI S1 ∧ FR md_co_addAs__p S S1 ∧ (r = none ∧ (S1 = uI (uI S 883 (Xi S 882 3).toNat (Int32.ofInt act)) 882 3 (Int32.ofInt (Xi S 882 3 + 1))))
set_option maxRecDepth 100000 in
theorem t_co_addAs__p {S : sS} (hH : RI S) (act : Int) (hact : -2147483648 ≤ act ∧ act ≤ 2147483647) (hc : 0 ≤ Xi S 882 3 ∧ Xi S 882 3 ≤ 100) (d : Nat) : Mp lay0 (d + 1) m_co_addAs [.ref 882, iv act] S (Q_co_addAs__p S act) := by
  refine Mp_R rfl rfl (fun fu => ?_)
  have hF : FR md_co_addAs__p S S := FR.rf
  have w1 : -2147483648 ≤ Xi S 882 3 ∧ Xi S 882 3 ≤ 2147483647 := Xi_rgI
  refine y_aload_n rfl rfl ?_
  refine y_gfr rfl rfl rfl rfl rfl (hH.r 882 4 883 rfl) ?_
  refine y_aload_n rfl rfl ?_
  refine y_gfi rfl rfl rfl rfl rfl ?_
  refine y_iload_n rfl rfl ?_
  refine y_iastoreP (n := 20) rfl rfl (by unfold rg; omega) (fun w2 w3 => ?_)
  obtain ⟨U1, eU1⟩ : ∃ T : sS, T = uI S 883 (((Xi S 882 3)).toNat) (Int32.ofInt act) := ⟨_, rfl⟩
  rw [← eU1]
  have hHU1 : RI U1 := by rw [eU1]; exact RI_w hH
  have hFU1 : FR md_co_addAs__p S U1 := by rw [eU1]; exact FR.wI hF (mdf_i (r := (883, 884, 0, 100000)) (List.mem_of_getElem? (i := 1) rfl) (inR_i (by omega) (by omega) (by omega) (by omega)))
  have w4 : Xi U1 883 (((Xi S 882 3)).toNat) = act := by rw [eU1]; exact Xi_same (by unfold rg; omega)
  have e9 := eU1
  refine y_aload_n rfl rfl ?_
  refine y_dup rfl rfl ?_
  refine y_gfi rfl rfl rfl rfl rfl ?_
  have w5 : (Xi U1 882 3) = (Xi S 882 3) := (show Xi U1 882 3 = Xi S 882 3 from by rw [eU1]; exact Xi_ne (by omega))
  rw [w5]
  refine y_iconst rfl ?_
  refine y_iadd rfl ?_
  refine y_pfi rfl rfl rfl rfl ?_
  obtain ⟨U2, eU2⟩ : ∃ T : sS, T = uI U1 882 3 (Int32.ofInt ((Xi S 882 3) + 1)) := ⟨_, rfl⟩
  rw [← eU2]
  have hHU2 : RI U2 := by rw [eU2]; exact RI_w hHU1
  have hFU2 : FR md_co_addAs__p S U2 := by rw [eU2]; exact FR.wI hFU1 (mdf_i (r := (882, 883, 3, 4)) (List.mem_of_getElem? (i := 0) rfl) (inR_i (by omega) (by omega) (by omega) (by omega)))
  have w6 : Xi U2 882 3 = ((Xi S 882 3) + 1) := by rw [eU2]; exact Xi_same (by unfold rg; omega)
  have e17 := eU2
  refine y_return rfl rfl ?_
  exact ⟨hHU2, hFU2, rfl, (by rw [← e9]; exact e17)⟩
def md_co_suits__p : List rec := [(886, 887, 0, 100000)]
abbrev Q_co_suits__p (S : sS) (act : Int) : pst := fun r S1 => RI S1 ∧ FR md_co_suits__p S S1 ∧ (∃ z : Int, r = some (iv z) ∧ (0 ≤ z ∧ z ≤ 1) ∧ (SUI S S1 z act))
set_option maxRecDepth 100000 in
theorem t_co_suits__p {S : sS} (hH : RI S) (act : Int) (hact : -2147483648 ≤ act ∧ act ≤ 2147483647) (h13 : 0 ≤ Xi S 1 3 ∧ Xi S 1 3 ≤ 200) (hCE : CEN S) (hc : 0 ≤ Xi S 882 3 ∧ Xi S 882 3 < 20) (hgw : Xi S 885 (Xi S 882 3).toNat ≠ -1 → 0 ≤ Xi S 882 10 ∧ Xi S 882 10 ≤ 5000) (d : Nat) : Mp lay0 (d + 5) m_co_suits [.ref 882, iv act] S (Q_co_suits__p S act) := by
  refine Mp_R rfl rfl (fun fu => ?_)
  have hF : FR md_co_suits__p S S := FR.rf
  have w1 : -2147483648 ≤ Xi S 1 3 ∧ Xi S 1 3 ≤ 2147483647 := Xi_rgI
  have w2 : -2147483648 ≤ Xi S 882 10 ∧ Xi S 882 10 ≤ 2147483647 := Xi_rgI
  have w3 : -2147483648 ≤ Xi S 882 3 ∧ Xi S 882 3 ≤ 2147483647 := Xi_rgI
  refine y_aload_n rfl rfl ?_
  refine y_gfr rfl rfl rfl rfl rfl (hH.r 882 1 1 rfl) ?_
  refine y_gfr rfl rfl rfl rfl rfl (hH.r 1 18 19 rfl) ?_
  refine y_iload_n rfl rfl ?_
  refine y_ialoadP (n := 12) rfl rfl (by unfold rg; omega) (fun w4 w5 => ?_)
  have w6 : -2147483648 ≤ (Xi S 19 ((act).toNat)) ∧ (Xi S 19 ((act).toNat)) ≤ 2147483647 := Xi_rgI
  refine y_istore_n rfl rfl rfl ?_
  refine y_iload_n rfl rfl ?_
  refine y_iconst rfl ?_
  refine y_icmp_eq rfl rfl (by unfold rg; omega) (by unfold rg; omega) (fun w7 => ?_) (fun w8 => ?_)
  · refine y_iload_n rfl rfl ?_
    refine y_iconst rfl ?_
    refine y_icmp_ne rfl rfl (by unfold rg; omega) (by unfold rg; omega) (fun w9 => ?_) (fun w10 => ?_)
    · refine y_iconst rfl ?_
      refine y_ireturn rfl rfl ?_
      exact ⟨hH, hF, _, rfl, ⟨by omega, by omega⟩, (by first | (have u := K111; exact ⟨fun q => absurd q (by omega), fun q => absurd q (by omega), fun _ _ _ => ⟨fun q => by first | omega | (have u := K146; exact ⟨by rw [← m111]; omega, by rw [← m111, ← k146]; omega⟩), fun q w => by rw [← m111] at w; first | omega | (have u := K146; rw [← k146] at w; omega), by rw [← m111]; exact e128⟩⟩) | (have u := K68; exact ⟨fun q => absurd q (by omega), fun _ _ => ⟨fun q => by omega, fun q => by omega, e68⟩, fun _ q => absurd (by omega) q⟩) | exact ⟨fun _ => ⟨fun q => by omega, fun q => by omega, rfl⟩, fun q w => by omega, fun q w x => by omega⟩)⟩
    · refine y_aload_n rfl rfl ?_
      refine y_gfr rfl rfl rfl rfl rfl (hH.r 882 6 885 rfl) ?_
      refine y_aload_n rfl rfl ?_
      refine y_gfi rfl rfl rfl rfl rfl ?_
      refine y_ialoadP (n := 20) rfl rfl (by unfold rg; omega) (fun w11 w12 => ?_)
      have w13 : -2147483648 ≤ (Xi S 885 (((Xi S 882 3)).toNat)) ∧ (Xi S 885 (((Xi S 882 3)).toNat)) ≤ 2147483647 := Xi_rgI
      refine y_iconst rfl ?_
      refine y_icmp_ne rfl rfl (by unfold rg; omega) (by unfold rg; omega) (fun w14 => ?_) (fun w15 => ?_)
      · refine y_iconst rfl ?_
        refine y_ireturn rfl rfl ?_
        exact ⟨hH, hF, _, rfl, ⟨by omega, by omega⟩, (by first | (have u := K111; exact ⟨fun q => absurd q (by omega), fun q => absurd q (by omega), fun _ _ _ => ⟨fun q => by first | omega | (have u := K146; exact ⟨by rw [← m111]; omega, by rw [← m111, ← k146]; omega⟩), fun q w => by rw [← m111] at w; first | omega | (have u := K146; rw [← k146] at w; omega), by rw [← m111]; exact e128⟩⟩) | (have u := K68; exact ⟨fun q => absurd q (by omega), fun _ _ => ⟨fun q => by omega, fun q => by omega, e68⟩, fun _ q => absurd (by omega) q⟩) | exact ⟨fun _ => ⟨fun q => by omega, fun q => by omega, rfl⟩, fun q w => by omega, fun q w x => by omega⟩)⟩
      · refine y_iconst rfl ?_
        refine y_goto rfl rfl ?_
        refine y_ireturn rfl rfl ?_
        exact ⟨hH, hF, _, rfl, ⟨by omega, by omega⟩, (by first | (have u := K111; exact ⟨fun q => absurd q (by omega), fun q => absurd q (by omega), fun _ _ _ => ⟨fun q => by first | omega | (have u := K146; exact ⟨by rw [← m111]; omega, by rw [← m111, ← k146]; omega⟩), fun q w => by rw [← m111] at w; first | omega | (have u := K146; rw [← k146] at w; omega), by rw [← m111]; exact e128⟩⟩) | (have u := K68; exact ⟨fun q => absurd q (by omega), fun _ _ => ⟨fun q => by omega, fun q => by omega, e68⟩, fun _ q => absurd (by omega) q⟩) | exact ⟨fun _ => ⟨fun q => by omega, fun q => by omega, rfl⟩, fun q w => by omega, fun q w x => by omega⟩)⟩
  · refine y_aload_n rfl rfl ?_
    refine y_gfr rfl rfl rfl rfl rfl (hH.r 882 6 885 rfl) ?_
    refine y_aload_n rfl rfl ?_
    refine y_gfi rfl rfl rfl rfl rfl ?_
    refine y_ialoadP (n := 20) rfl rfl (by unfold rg; omega) (fun w16 w17 => ?_)
    have w18 : -2147483648 ≤ (Xi S 885 (((Xi S 882 3)).toNat)) ∧ (Xi S 885 (((Xi S 882 3)).toNat)) ≤ 2147483647 := Xi_rgI
    refine y_iconst rfl ?_
    refine y_icmp_ne rfl rfl (by unfold rg; omega) (by unfold rg; omega) (fun w19 => ?_) (fun w20 => ?_)
    · refine y_iload_n rfl rfl ?_
      refine y_bipush rfl rfl ?_
      refine y_icmp_ne rfl rfl (by unfold rg; omega) (by unfold rg; omega) (fun w21 => ?_) (fun w22 => ?_)
      · refine y_aload_n rfl rfl ?_
        refine y_gfr rfl rfl rfl rfl rfl (hH.r 882 1 1 rfl) ?_
        refine y_aload_n rfl rfl ?_
        refine y_gfr rfl rfl rfl rfl rfl (hH.r 882 9 888 rfl) ?_
        refine y_iconst rfl ?_
        refine y_aload_n rfl rfl ?_
        refine y_gfi rfl rfl rfl rfl rfl ?_
        refine y_callV rfl rfl rfl (t_vo_meaning__p hH 888 3 0 (Xi S 882 10) rfl ⟨by omega, by omega⟩ ⟨by omega, by omega⟩ ⟨by omega, by omega⟩ (by first | assumption | omega) (by first | assumption | exact (CEN_FR hF rfl rfl (by assumption : CEN S))) _) ?_
        rintro _ _ ⟨rfl, z23, rfl, w23, f111, n111⟩
        show Pl _ _ _ _ _ _ [iv z23] _ _
        have K111 : True := trivial
        have m111 : z23 = mnG S := by unfold mnG; by_cases q : 1 ≤ Xi S 882 10 ∧ Xi S 882 10 ≤ 3; (rw [if_pos q]; have u := f111 (by omega) (by omega) (by omega) (by omega); rw [show Xi S 882 10 - 0 = Xi S 882 10 by omega] at u; exact u); (rw [if_neg q]; exact n111 (by omega))
        refine y_istore_n rfl rfl rfl ?_
        refine y_aload_n rfl rfl ?_
        refine y_gfr rfl rfl rfl rfl rfl (hH.r 882 7 886 rfl) ?_
        refine y_aload_n rfl rfl ?_
        refine y_gfi rfl rfl rfl rfl rfl ?_
        refine y_iload_n rfl rfl ?_
        refine y_sipush rfl rfl ?_
        refine y_iand255 rfl (by unfold rg; omega) ?_
        refine y_iastoreP (n := 20) rfl rfl (by unfold rg; omega) (fun w25 w26 => ?_)
        obtain ⟨U1, eU1⟩ : ∃ T : sS, T = uI S 886 (((Xi S 882 3)).toNat) (Int32.ofInt (z23 % 256)) := ⟨_, rfl⟩
        rw [← eU1]
        have hHU1 : RI U1 := by rw [eU1]; exact RI_w hH
        have hFU1 : FR md_co_suits__p S U1 := by rw [eU1]; exact FR.wI hF (mdf_i (r := (886, 887, 0, 100000)) (List.mem_of_getElem? (i := 0) rfl) (inR_i (by omega) (by omega) (by omega) (by omega)))
        have w27 : Xi U1 886 (((Xi S 882 3)).toNat) = (z23 % 256) := by rw [eU1]; exact Xi_same (by unfold rg; omega)
        have e128 := eU1
        refine y_iload_n rfl rfl ?_
        refine y_bipush rfl rfl ?_
        refine y_ishr8 rfl (by unfold rg; omega) ?_
        refine y_if_ne rfl rfl (by unfold rg; omega) (fun w29 => ?_) (fun w30 => ?_)
        · refine y_iconst rfl ?_
          refine y_ireturn rfl rfl ?_
          exact ⟨hHU1, hFU1, _, rfl, ⟨by omega, by omega⟩, (by first | (have u := K111; exact ⟨fun q => absurd q (by omega), fun q => absurd q (by omega), fun _ _ _ => ⟨fun q => by first | omega | (have u := K146; exact ⟨by rw [← m111]; omega, by rw [← m111, ← k146]; omega⟩), fun q w => by rw [← m111] at w; first | omega | (have u := K146; rw [← k146] at w; omega), by rw [← m111]; exact e128⟩⟩) | (have u := K68; exact ⟨fun q => absurd q (by omega), fun _ _ => ⟨fun q => by omega, fun q => by omega, e68⟩, fun _ q => absurd (by omega) q⟩) | exact ⟨fun _ => ⟨fun q => by omega, fun q => by omega, rfl⟩, fun q w => by omega, fun q w x => by omega⟩)⟩
        · refine y_aload_n rfl rfl ?_
          refine y_gfr rfl rfl rfl rfl rfl (hHU1.r 882 1 1 rfl) ?_
          refine y_iload_n rfl rfl ?_
          refine y_sipush rfl rfl ?_
          refine y_iand255 rfl (by unfold rg; omega) ?_
          refine y_iload_n rfl rfl ?_
          refine y_callV rfl rfl rfl (t_vo_isKind__p hHU1 (z23 % 256) (Xi S 19 ((act).toNat)) ⟨by omega, by omega⟩ ⟨by omega, by omega⟩ _) ?_
          rintro _ _ ⟨rfl, z36, rfl, w36, q146⟩
          show Pl _ _ _ _ _ _ [iv z36] _ _
          have K146 : True := trivial
          have k146 : z36 = isK S (z23 % 256) (Xi S 19 act.toNat) := q146.trans (isK_F (FR_e e128) rfl _ _)
          refine y_if_eq rfl rfl (by unfold rg; omega) (fun w37 => ?_) (fun w38 => ?_)
          · refine y_iconst rfl ?_
            refine y_ireturn rfl rfl ?_
            exact ⟨hHU1, hFU1, _, rfl, ⟨by omega, by omega⟩, (by first | (have u := K111; exact ⟨fun q => absurd q (by omega), fun q => absurd q (by omega), fun _ _ _ => ⟨fun q => by first | omega | (have u := K146; exact ⟨by rw [← m111]; omega, by rw [← m111, ← k146]; omega⟩), fun q w => by rw [← m111] at w; first | omega | (have u := K146; rw [← k146] at w; omega), by rw [← m111]; exact e128⟩⟩) | (have u := K68; exact ⟨fun q => absurd q (by omega), fun _ _ => ⟨fun q => by omega, fun q => by omega, e68⟩, fun _ q => absurd (by omega) q⟩) | exact ⟨fun _ => ⟨fun q => by omega, fun q => by omega, rfl⟩, fun q w => by omega, fun q w x => by omega⟩)⟩
          · refine y_iconst rfl ?_
            refine y_goto rfl rfl ?_
            refine y_ireturn rfl rfl ?_
            exact ⟨hHU1, hFU1, _, rfl, ⟨by omega, by omega⟩, (by first | (have u := K111; exact ⟨fun q => absurd q (by omega), fun q => absurd q (by omega), fun _ _ _ => ⟨fun q => by first | omega | (have u := K146; exact ⟨by rw [← m111]; omega, by rw [← m111, ← k146]; omega⟩), fun q w => by rw [← m111] at w; first | omega | (have u := K146; rw [← k146] at w; omega), by rw [← m111]; exact e128⟩⟩) | (have u := K68; exact ⟨fun q => absurd q (by omega), fun _ _ => ⟨fun q => by omega, fun q => by omega, e68⟩, fun _ q => absurd (by omega) q⟩) | exact ⟨fun _ => ⟨fun q => by omega, fun q => by omega, rfl⟩, fun q w => by omega, fun q w x => by omega⟩)⟩
      · refine y_aload_n rfl rfl ?_
        refine y_gfr rfl rfl rfl rfl rfl (hH.r 882 7 886 rfl) ?_
        refine y_aload_n rfl rfl ?_
        refine y_gfi rfl rfl rfl rfl rfl ?_
        refine y_bipush rfl rfl ?_
        refine y_iastoreP (n := 20) rfl rfl (by unfold rg; omega) (fun w43 w44 => ?_)
        obtain ⟨U2, eU2⟩ : ∃ T : sS, T = uI S 886 (((Xi S 882 3)).toNat) (Int32.ofInt (-2)) := ⟨_, rfl⟩
        rw [← eU2]
        have hHU2 : RI U2 := by rw [eU2]; exact RI_w hH
        have hFU2 : FR md_co_suits__p S U2 := by rw [eU2]; exact FR.wI hF (mdf_i (r := (886, 887, 0, 100000)) (List.mem_of_getElem? (i := 0) rfl) (inR_i (by omega) (by omega) (by omega) (by omega)))
        have w45 : Xi U2 886 (((Xi S 882 3)).toNat) = (-2) := by rw [eU2]; exact Xi_same (by unfold rg; omega)
        have K68 : True := trivial
        have e68 := eU2
        refine y_aload_n rfl rfl ?_
        refine y_gfi rfl rfl rfl rfl rfl ?_
        have w46 : (Xi U2 882 10) = (Xi S 882 10) := (show Xi U2 882 10 = Xi S 882 10 from by rw [eU2]; exact Xi_ne (by omega))
        rw [w46]
        refine y_iconst rfl ?_
        refine y_icmp_ne rfl rfl (by unfold rg; omega) (by unfold rg; omega) (fun w47 => ?_) (fun w48 => ?_)
        · refine y_iconst rfl ?_
          refine y_ireturn rfl rfl ?_
          exact ⟨hHU2, hFU2, _, rfl, ⟨by omega, by omega⟩, (by first | (have u := K111; exact ⟨fun q => absurd q (by omega), fun q => absurd q (by omega), fun _ _ _ => ⟨fun q => by first | omega | (have u := K146; exact ⟨by rw [← m111]; omega, by rw [← m111, ← k146]; omega⟩), fun q w => by rw [← m111] at w; first | omega | (have u := K146; rw [← k146] at w; omega), by rw [← m111]; exact e128⟩⟩) | (have u := K68; exact ⟨fun q => absurd q (by omega), fun _ _ => ⟨fun q => by omega, fun q => by omega, e68⟩, fun _ q => absurd (by omega) q⟩) | exact ⟨fun _ => ⟨fun q => by omega, fun q => by omega, rfl⟩, fun q w => by omega, fun q w x => by omega⟩)⟩
        · refine y_aload_n rfl rfl ?_
          refine y_gfr rfl rfl rfl rfl rfl (hHU2.r 882 9 888 rfl) ?_
          refine y_iconst rfl ?_
          refine y_laloadP (n := 3) rfl rfl (by unfold rg; omega) (fun w51 w52 => ?_)
          have w53 : -9223372036854775808 ≤ (Xj U2 888 ((0 : Int).toNat)) ∧ (Xj U2 888 ((0 : Int).toNat)) < 9223372036854775808 := Xj_rg
          have j82 : (Xj U2 888 ((0 : Int).toNat)) = Xj S 888 0 := by first | rfl | (rw [e68]; rfl)
          refine y_ldcR (i := 35) rfl rfl ?_
          refine y_callS rfl rfl (by decide) rfl (t_vo_codeOf__p hHU2 35 _ rfl (by decide) _) ?_
          rintro _ _ ⟨rfl, z56, rfl, v85, g85⟩
          show Pl _ _ _ _ _ _ [jw z56, jw (Xj U2 888 ((0 : Int).toNat))] _ _
          have c85 : z56 = 1230908633051 := by rw [v85]; decide +kernel
          refine y_lcmp rfl (by unfold rgL; omega) (by unfold rgL; omega) (fun c57 w57 w57a w57b w57c => ?_)
          refine y_if_ne rfl rfl (by unfold rg; omega) (fun w58 => ?_) (fun w59 => ?_)
          · refine y_iconst rfl ?_
            refine y_ireturn rfl rfl ?_
            exact ⟨hHU2, hFU2, _, rfl, ⟨by omega, by omega⟩, (by first | (have u := K111; exact ⟨fun q => absurd q (by omega), fun q => absurd q (by omega), fun _ _ _ => ⟨fun q => by first | omega | (have u := K146; exact ⟨by rw [← m111]; omega, by rw [← m111, ← k146]; omega⟩), fun q w => by rw [← m111] at w; first | omega | (have u := K146; rw [← k146] at w; omega), by rw [← m111]; exact e128⟩⟩) | (have u := K68; exact ⟨fun q => absurd q (by omega), fun _ _ => ⟨fun q => by omega, fun q => by omega, e68⟩, fun _ q => absurd (by omega) q⟩) | exact ⟨fun _ => ⟨fun q => by omega, fun q => by omega, rfl⟩, fun q w => by omega, fun q w x => by omega⟩)⟩
          · refine y_iconst rfl ?_
            refine y_goto rfl rfl ?_
            refine y_ireturn rfl rfl ?_
            exact ⟨hHU2, hFU2, _, rfl, ⟨by omega, by omega⟩, (by first | (have u := K111; exact ⟨fun q => absurd q (by omega), fun q => absurd q (by omega), fun _ _ _ => ⟨fun q => by first | omega | (have u := K146; exact ⟨by rw [← m111]; omega, by rw [← m111, ← k146]; omega⟩), fun q w => by rw [← m111] at w; first | omega | (have u := K146; rw [← k146] at w; omega), by rw [← m111]; exact e128⟩⟩) | (have u := K68; exact ⟨fun q => absurd q (by omega), fun _ _ => ⟨fun q => by omega, fun q => by omega, e68⟩, fun _ q => absurd (by omega) q⟩) | exact ⟨fun _ => ⟨fun q => by omega, fun q => by omega, rfl⟩, fun q w => by omega, fun q w x => by omega⟩)⟩
    · refine y_iload_n rfl rfl ?_
      refine y_iconst rfl ?_
      refine y_icmp_ne rfl rfl (by unfold rg; omega) (by unfold rg; omega) (fun w64 => ?_) (fun w65 => ?_)
      · refine y_iconst rfl ?_
        refine y_ireturn rfl rfl ?_
        exact ⟨hH, hF, _, rfl, ⟨by omega, by omega⟩, (by first | (have u := K111; exact ⟨fun q => absurd q (by omega), fun q => absurd q (by omega), fun _ _ _ => ⟨fun q => by first | omega | (have u := K146; exact ⟨by rw [← m111]; omega, by rw [← m111, ← k146]; omega⟩), fun q w => by rw [← m111] at w; first | omega | (have u := K146; rw [← k146] at w; omega), by rw [← m111]; exact e128⟩⟩) | (have u := K68; exact ⟨fun q => absurd q (by omega), fun _ _ => ⟨fun q => by omega, fun q => by omega, e68⟩, fun _ q => absurd (by omega) q⟩) | exact ⟨fun _ => ⟨fun q => by omega, fun q => by omega, rfl⟩, fun q w => by omega, fun q w x => by omega⟩)⟩
      · refine y_aload_n rfl rfl ?_
        refine y_gfr rfl rfl rfl rfl rfl (hH.r 882 6 885 rfl) ?_
        refine y_aload_n rfl rfl ?_
        refine y_gfi rfl rfl rfl rfl rfl ?_
        refine y_ialoadP (n := 20) rfl rfl (by unfold rg; omega) (fun w66 w67 => ?_)
        refine y_iconst rfl ?_
        refine y_icmp_ne rfl rfl (by unfold rg; omega) (by unfold rg; omega) (fun w68 => ?_) (fun w69 => ?_)
        · refine y_iconst rfl ?_
          refine y_ireturn rfl rfl ?_
          exact ⟨hH, hF, _, rfl, ⟨by omega, by omega⟩, (by first | (have u := K111; exact ⟨fun q => absurd q (by omega), fun q => absurd q (by omega), fun _ _ _ => ⟨fun q => by first | omega | (have u := K146; exact ⟨by rw [← m111]; omega, by rw [← m111, ← k146]; omega⟩), fun q w => by rw [← m111] at w; first | omega | (have u := K146; rw [← k146] at w; omega), by rw [← m111]; exact e128⟩⟩) | (have u := K68; exact ⟨fun q => absurd q (by omega), fun _ _ => ⟨fun q => by omega, fun q => by omega, e68⟩, fun _ q => absurd (by omega) q⟩) | exact ⟨fun _ => ⟨fun q => by omega, fun q => by omega, rfl⟩, fun q w => by omega, fun q w x => by omega⟩)⟩
        · refine y_iconst rfl ?_
          refine y_goto rfl rfl ?_
          refine y_ireturn rfl rfl ?_
          exact ⟨hH, hF, _, rfl, ⟨by omega, by omega⟩, (by first | (have u := K111; exact ⟨fun q => absurd q (by omega), fun q => absurd q (by omega), fun _ _ _ => ⟨fun q => by first | omega | (have u := K146; exact ⟨by rw [← m111]; omega, by rw [← m111, ← k146]; omega⟩), fun q w => by rw [← m111] at w; first | omega | (have u := K146; rw [← k146] at w; omega), by rw [← m111]; exact e128⟩⟩) | (have u := K68; exact ⟨fun q => absurd q (by omega), fun _ _ => ⟨fun q => by omega, fun q => by omega, e68⟩, fun _ q => absurd (by omega) q⟩) | exact ⟨fun _ => ⟨fun q => by omega, fun q => by omega, rfl⟩, fun q w => by omega, fun q w x => by omega⟩)⟩
def md_re_understand__p : List rec := [(876, 877, 8, 9), (876, 877, 9, 10), (882, 883, 3, 4), (882, 883, 10, 11), (883, 884, 0, 100000), (884, 885, 0, 100000), (885, 886, 0, 100000), (886, 887, 0, 100000), (887, 888, 0, 100000), (888, 889, 0, 100000)]
abbrev Q_re_understand__p (S : sS) (ts : Nat) : pst := fun r S1 => RI S1 ∧ FR md_re_understand__p S S1 ∧ (∃ z : Int, r = some (iv z) ∧ (0 ≤ z ∧ z ≤ 1) ∧ (TUN md_co_takeText__p md_co_suits__p S S1 ts z (fnd S 8 3 (re7 (ty7 S) 3)) (pc7 S 1 + 1) (pc7 S 1 + 1 + Xj S 879 1)))
set_option maxRecDepth 100000 in
theorem t_re_understand__p {S : sS} (hH : RI S) (ts : Nat) (hts : S.2.2 876 4 = some ts) (htp : tp ts) (h13 : 0 ≤ Xi S 1 3 ∧ Xi S 1 3 ≤ 200) (hCE : CEN S) (hf : Xi S 876 8 = 0) (hr : Xi S 876 7 ≤ 5130) (hby : BYT S ts) (hcc : 0 ≤ Xi S 882 3 ∧ Xi S 882 3 ≤ 20) (h1r : 1 < Xi S 876 7) (hpx : 0 ≤ pc7 S 1 ∧ 0 ≤ Xj S 879 1 ∧ pc7 S 1 + 1 + Xj S 879 1 < 5000) (d : Nat) : Mp lay0 (d + 6) m_re_understand [.ref 891] S (Q_re_understand__p S ts) := by
  refine Mp_R rfl rfl (fun fu => ?_)
  have hF : FR md_re_understand__p S S := FR.rf
  have w1 : -2147483648 ≤ Xi S 1 3 ∧ Xi S 1 3 ≤ 2147483647 := Xi_rgI
  have w2 : -2147483648 ≤ Xi S 876 7 ∧ Xi S 876 7 ≤ 2147483647 := Xi_rgI
  have w3 : -2147483648 ≤ Xi S 876 8 ∧ Xi S 876 8 ≤ 2147483647 := Xi_rgI
  have w4 : -2147483648 ≤ Xi S 882 3 ∧ Xi S 882 3 ≤ 2147483647 := Xi_rgI
  refine y_aload_n rfl rfl ?_
  refine y_gfr rfl rfl rfl rfl rfl (hH.r 891 4 895 rfl) ?_
  refine y_bipush rfl rfl ?_
  refine y_iconst rfl ?_
  refine y_aload_n rfl rfl ?_
  refine y_gfr rfl rfl rfl rfl rfl (hH.r 891 0 876 rfl) ?_
  refine y_iconst rfl ?_
  refine y_callV rfl rfl rfl (t_to_runEnd__p hH 3 ⟨by omega, by omega⟩ _) ?_
  rintro _ _ ⟨rfl, z6, rfl, w6, g12, w5⟩
  show Pl _ _ _ _ _ _ [iv z6, iv 3, iv 8, .ref 895] _ _
  have gq12 := g12
  refine y_callV rfl rfl rfl (t_me_find__p hH 8 3 z6 ⟨by omega, by omega⟩ ⟨by omega, by omega⟩ ⟨by omega, by omega⟩ (by first | assumption | omega) (by first | assumption | exact (CEN_FR hF rfl rfl (by assumption : CEN S))) _) ?_
  rintro _ _ ⟨rfl, z7, rfl, w7, v15⟩
  show Pl _ _ _ _ _ _ [iv z7] _ _
  have a15 : z7 = (fnd S 8 3 (re7 (ty7 S) 3)) := by first | (rw [gq12]; exact v15) | (rw [g12]; exact v15)
  refine y_istore_n rfl rfl rfl ?_
  refine y_aload_n rfl rfl ?_
  refine y_gfr rfl rfl rfl rfl rfl (hH.r 891 0 876 rfl) ?_
  refine y_iconst rfl ?_
  refine y_callV rfl rfl rfl (t_to_placeAt__p hH 1 ⟨by omega, by omega⟩ _) ?_
  rintro _ _ ⟨rfl, z8, rfl, w8, q24⟩
  show Pl _ _ _ _ _ _ [iv z8] _ _
  have k24 : z8 = pc7 S 1 := q24
  refine y_iconst rfl ?_
  refine y_iadd rfl ?_
  refine y_istore_n rfl rfl rfl ?_
  refine y_aload_n rfl rfl ?_
  refine y_gfr rfl rfl rfl rfl rfl (hH.r 891 6 882 rfl) ?_
  refine y_gfi rfl rfl rfl rfl rfl ?_
  refine y_bipush rfl rfl ?_
  refine y_icmp_lt rfl rfl (by unfold rg; omega) (by unfold rg; omega) (fun w9 => ?_) (fun w10 => ?_)
  · refine y_aload_n rfl rfl ?_
    refine y_gfr rfl rfl rfl rfl rfl (hH.r 891 6 882 rfl) ?_
    refine y_aload_n rfl rfl ?_
    refine y_gfr rfl rfl rfl rfl rfl (hH.r 891 0 876 rfl) ?_
    refine y_gfr rfl rfl rfl rfl rfl ((hF 876 4 rfl).2.2.trans hts) ?_
    refine y_iload_n rfl rfl ?_
    refine y_iload_n rfl rfl ?_
    refine y_aload_n rfl rfl ?_
    refine y_gfr rfl rfl rfl rfl rfl (hH.r 891 0 876 rfl) ?_
    refine y_iconst rfl ?_
    refine y_callV rfl rfl rfl (t_to_valueAt__p hH 1 ⟨by omega, by omega⟩ _) ?_
    rintro _ _ ⟨rfl, z12, rfl, w12, p71⟩
    show Pl _ _ _ _ _ _ [iv z12, iv (z8 + 1), iv (z8 + 1), .ref ts, .ref 882] _ _
    have k71 : z12 = Xj S 879 1 := p71 (by omega) (by omega) (by show (0 : Int) ≤ Xj S 879 1; omega) (by show Xj S 879 1 ≤ 2147483647; omega)
    refine y_iadd rfl ?_
    refine y_callV rfl rfl rfl (t_co_takeText__p hH ts (z8 + 1) ((z8 + 1) + z12) htp ⟨by omega, by omega⟩ ⟨by omega, by omega⟩ (hby) (by first | assumption | omega) (by first | assumption | omega) _) ?_
    rintro _ T1 ⟨hHT1, w14, z13, rfl, w13, o75⟩
    have hFT1 : FR md_re_understand__p S T1 := FR.tr hF w14 rfl
    show Pl _ _ _ _ _ _ [iv z13] _ _
    have K75 : True := trivial
    have F75 := (by assumption : FR md_co_takeText__p S T1)
    have X75 : TXO S T1 ts (pc7 S 1 + 1) (pc7 S 1 + 1 + Xj S 879 1) z13 := by have u := o75; rw [k24, k71] at u; exact u
    clear o75
    have c75 : Xi T1 882 3 = Xi S 882 3 := F75.x 882 3 rfl
    have z75 : Xi T1 876 8 = 0 := (F75.x 876 8 rfl).trans hf
    have g75 : z13 = 1 → Xi T1 885 (Xi S 882 3).toNat ≠ -1 → 0 ≤ Xi T1 882 10 ∧ Xi T1 882 10 ≤ 5000 := fun q w => txo_g (by omega) X75 q w
    refine y_if_eq rfl rfl (by unfold rg; omega) (fun w15 => ?_) (fun w16 => ?_)
    · refine y_aload_n rfl rfl ?_
      refine y_gfr rfl rfl rfl rfl rfl (hHT1.r 891 0 876 rfl) ?_
      refine y_bipush rfl rfl ?_
      refine y_iconst rfl ?_
      have w17 : Xi T1 876 8 = Xi S 876 8 := (show Xi T1 876 8 = Xi S 876 8 from w14.x _ _ rfl)
      have w18 : Xi T1 876 9 = Xi S 876 9 := (show Xi T1 876 9 = Xi S 876 9 from w14.x _ _ rfl)
      refine y_callV rfl rfl rfl (t_to_wrong__p hHT1 8 1 ⟨by omega, by omega⟩ ⟨by omega, by omega⟩ _) ?_
      rintro _ T2 ⟨hHT2, w23, z22, rfl, w22, w20, f104, w21⟩
      have hFT2 : FR md_re_understand__p S T2 := FR.tr hFT1 w23 rfl
      show Pl _ _ _ _ _ _ [iv z22] _ _
      have Y104 : FTO S T2 8 1 := by first | (have u := K91; have u := f104 z91; exact ⟨u.1, u.2.trans ((pc7_FR F91 rfl rfl rfl _).trans (pc7_FR F75 rfl rfl rfl _))⟩) | (have u := f104 z75; exact ⟨u.1, u.2.trans (pc7_FR F75 rfl rfl rfl _)⟩)
      refine y_ireturn rfl (retI_z (by omega)) ?_
      exact ⟨hHT2, hFT2, _, rfl, ⟨by omega, by omega⟩, (by first | (have u := K75; refine ⟨fun q => absurd q (by omega), fun _ => ⟨_, _, F75, X75, ?_⟩⟩; first | (have u := K91; first | (have u := e128; exact Or.inr (Or.inr ⟨by omega, by rw [← a15]; omega, _, _, F91, S91, Or.inr ⟨by omega, rfl, E128⟩⟩)) | exact Or.inr (Or.inr ⟨by omega, by rw [← a15]; omega, _, _, F91, S91, Or.inl ⟨by omega, by omega, Y104⟩⟩)) | (have u := Y119; exact Or.inr (Or.inl ⟨by omega, by rw [← a15]; omega, by omega, Y119⟩)) | exact Or.inl ⟨by omega, by omega, Y104⟩) | exact ⟨fun _ => ⟨by omega, f49 hf⟩, fun q => absurd q (by omega)⟩)⟩
    · refine y_iload_n rfl rfl ?_
      refine y_iconst rfl ?_
      refine y_icmp_eq rfl rfl (by unfold rg; omega) (by unfold rg; omega) (fun w25 => ?_) (fun w26 => ?_)
      · refine y_iload_n rfl rfl ?_
        refine y_iconst rfl ?_
        refine y_icmp_ne rfl rfl (by unfold rg; omega) (by unfold rg; omega) (fun w27 => ?_) (fun w28 => ?_)
        · exfalso; omega
        · refine y_aload_n rfl rfl ?_
          refine y_gfr rfl rfl rfl rfl rfl (hHT1.r 891 0 876 rfl) ?_
          refine y_iconst rfl ?_
          refine y_iconst rfl ?_
          have w29 : Xi T1 876 8 = Xi S 876 8 := (show Xi T1 876 8 = Xi S 876 8 from w14.x _ _ rfl)
          have w30 : Xi T1 876 9 = Xi S 876 9 := (show Xi T1 876 9 = Xi S 876 9 from w14.x _ _ rfl)
          refine y_callV rfl rfl rfl (t_to_wrong__p hHT1 4 3 ⟨by omega, by omega⟩ ⟨by omega, by omega⟩ _) ?_
          rintro _ T3 ⟨hHT3, w35, z34, rfl, w34, w32, f119, w33⟩
          have hFT3 : FR md_re_understand__p S T3 := FR.tr hFT1 w35 rfl
          show Pl _ _ _ _ _ _ [iv z34] _ _
          have Y119 : FTO S T3 4 3 := by have u := f119 z75; exact ⟨u.1, u.2.trans (pc7_FR F75 rfl rfl rfl _)⟩
          refine y_ireturn rfl (retI_z (by omega)) ?_
          exact ⟨hHT3, hFT3, _, rfl, ⟨by omega, by omega⟩, (by first | (have u := K75; refine ⟨fun q => absurd q (by omega), fun _ => ⟨_, _, F75, X75, ?_⟩⟩; first | (have u := K91; first | (have u := e128; exact Or.inr (Or.inr ⟨by omega, by rw [← a15]; omega, _, _, F91, S91, Or.inr ⟨by omega, rfl, E128⟩⟩)) | exact Or.inr (Or.inr ⟨by omega, by rw [← a15]; omega, _, _, F91, S91, Or.inl ⟨by omega, by omega, Y104⟩⟩)) | (have u := Y119; exact Or.inr (Or.inl ⟨by omega, by rw [← a15]; omega, by omega, Y119⟩)) | exact Or.inl ⟨by omega, by omega, Y104⟩) | exact ⟨fun _ => ⟨by omega, f49 hf⟩, fun q => absurd q (by omega)⟩)⟩
      · refine y_aload_n rfl rfl ?_
        refine y_gfr rfl rfl rfl rfl rfl (hHT1.r 891 6 882 rfl) ?_
        refine y_iload_n rfl rfl ?_
        have w37 : Xi T1 1 3 = Xi S 1 3 := (show Xi T1 1 3 = Xi S 1 3 from w14.x _ _ rfl)
        have w38 : Xi T1 876 8 = Xi S 876 8 := (show Xi T1 876 8 = Xi S 876 8 from w14.x _ _ rfl)
        have w39 : Xi T1 882 3 = Xi S 882 3 := (show Xi T1 882 3 = Xi S 882 3 from w14.x _ _ rfl)
        refine y_callV rfl rfl rfl (t_co_suits__p hHT1 z7 ⟨by omega, by omega⟩ (by first | assumption | omega) (by first | assumption | exact (CEN_FR hFT1 rfl rfl (by assumption : CEN S))) (by first | assumption | omega) (by rw [c75]; exact g75 (by omega)) _) ?_
        rintro _ T4 ⟨hHT4, w41, z40, rfl, w40, o91⟩
        have hFT4 : FR md_re_understand__p S T4 := FR.tr hFT1 w41 rfl
        show Pl _ _ _ _ _ _ [iv z40] _ _
        have K91 : True := trivial
        have F91 := (by assumption : FR md_co_suits__p T1 T4)
        have S91 : SUI T1 T4 z40 (fnd S 8 3 (re7 (ty7 S) 3)) := by have u := o91; rw [a15] at u; exact u
        clear o91
        have z91 : Xi T4 876 8 = 0 := (F91.x 876 8 rfl).trans z75
        have c91 : Xi T4 882 3 = Xi S 882 3 := (F91.x 882 3 rfl).trans c75
        refine y_if_ne rfl rfl (by unfold rg; omega) (fun w42 => ?_) (fun w43 => ?_)
        · refine y_iload_n rfl rfl ?_
          refine y_iconst rfl ?_
          refine y_icmp_ne rfl rfl (by unfold rg; omega) (by unfold rg; omega) (fun w44 => ?_) (fun w45 => ?_)
          · refine y_aload_n rfl rfl ?_
            refine y_gfr rfl rfl rfl rfl rfl (hHT4.r 891 6 882 rfl) ?_
            refine y_iload_n rfl rfl ?_
            have w47 : Xi T4 882 3 = Xi S 882 3 := (show Xi T4 882 3 = Xi T1 882 3 from w41.x _ _ rfl).trans ((show Xi T1 882 3 = Xi S 882 3 from w14.x _ _ rfl))
            refine y_callV rfl rfl rfl (t_co_addAs__p hHT4 z7 ⟨by omega, by omega⟩ (by first | assumption | omega) _) ?_
            rintro _ T5 ⟨hHT5, w49, rfl, e128⟩
            have hFT5 : FR md_re_understand__p S T5 := FR.tr hFT4 w49 rfl
            show Pl _ _ _ _ _ _ [] _ _
            have E128 : T5 = uI (uI T4 883 (Xi S 882 3).toNat (Int32.ofInt (fnd S 8 3 (re7 (ty7 S) 3)))) 882 3 (Int32.ofInt (Xi S 882 3 + 1)) := by have u := e128; rw [c91, a15] at u; exact u
            refine y_iconst rfl ?_
            refine y_ireturn rfl rfl ?_
            exact ⟨hHT5, hFT5, _, rfl, ⟨by omega, by omega⟩, (by first | (have u := K75; refine ⟨fun q => absurd q (by omega), fun _ => ⟨_, _, F75, X75, ?_⟩⟩; first | (have u := K91; first | (have u := e128; exact Or.inr (Or.inr ⟨by omega, by rw [← a15]; omega, _, _, F91, S91, Or.inr ⟨by omega, rfl, E128⟩⟩)) | exact Or.inr (Or.inr ⟨by omega, by rw [← a15]; omega, _, _, F91, S91, Or.inl ⟨by omega, by omega, Y104⟩⟩)) | (have u := Y119; exact Or.inr (Or.inl ⟨by omega, by rw [← a15]; omega, by omega, Y119⟩)) | exact Or.inl ⟨by omega, by omega, Y104⟩) | exact ⟨fun _ => ⟨by omega, f49 hf⟩, fun q => absurd q (by omega)⟩)⟩
          · exfalso; omega
        · refine y_aload_n rfl rfl ?_
          refine y_gfr rfl rfl rfl rfl rfl (hHT4.r 891 0 876 rfl) ?_
          refine y_bipush rfl rfl ?_
          refine y_iconst rfl ?_
          have w51 : Xi T4 876 8 = Xi S 876 8 := (show Xi T4 876 8 = Xi T1 876 8 from w41.x _ _ rfl).trans ((show Xi T1 876 8 = Xi S 876 8 from w14.x _ _ rfl))
          have w52 : Xi T4 876 9 = Xi S 876 9 := (show Xi T4 876 9 = Xi T1 876 9 from w41.x _ _ rfl).trans ((show Xi T1 876 9 = Xi S 876 9 from w14.x _ _ rfl))
          refine y_callV rfl rfl rfl (t_to_wrong__p hHT4 8 1 ⟨by omega, by omega⟩ ⟨by omega, by omega⟩ _) ?_
          rintro _ T6 ⟨hHT6, w57, z56, rfl, w56, w54, f104, w55⟩
          have hFT6 : FR md_re_understand__p S T6 := FR.tr hFT4 w57 rfl
          show Pl _ _ _ _ _ _ [iv z56] _ _
          have Y104 : FTO S T6 8 1 := by first | (have u := K91; have u := f104 z91; exact ⟨u.1, u.2.trans ((pc7_FR F91 rfl rfl rfl _).trans (pc7_FR F75 rfl rfl rfl _))⟩) | (have u := f104 z75; exact ⟨u.1, u.2.trans (pc7_FR F75 rfl rfl rfl _)⟩)
          refine y_ireturn rfl (retI_z (by omega)) ?_
          exact ⟨hHT6, hFT6, _, rfl, ⟨by omega, by omega⟩, (by first | (have u := K75; refine ⟨fun q => absurd q (by omega), fun _ => ⟨_, _, F75, X75, ?_⟩⟩; first | (have u := K91; first | (have u := e128; exact Or.inr (Or.inr ⟨by omega, by rw [← a15]; omega, _, _, F91, S91, Or.inr ⟨by omega, rfl, E128⟩⟩)) | exact Or.inr (Or.inr ⟨by omega, by rw [← a15]; omega, _, _, F91, S91, Or.inl ⟨by omega, by omega, Y104⟩⟩)) | (have u := Y119; exact Or.inr (Or.inl ⟨by omega, by rw [← a15]; omega, by omega, Y119⟩)) | exact Or.inl ⟨by omega, by omega, Y104⟩) | exact ⟨fun _ => ⟨by omega, f49 hf⟩, fun q => absurd q (by omega)⟩)⟩
  · refine y_aload_n rfl rfl ?_
    refine y_gfr rfl rfl rfl rfl rfl (hH.r 891 0 876 rfl) ?_
    refine y_bipush rfl rfl ?_
    refine y_iconst rfl ?_
    refine y_callV rfl rfl rfl (t_to_wrong__p hH 9 1 ⟨by omega, by omega⟩ ⟨by omega, by omega⟩ _) ?_
    rintro _ T7 ⟨hHT7, w62, z61, rfl, w61, w59, f49, w60⟩
    have hFT7 : FR md_re_understand__p S T7 := FR.tr hF w62 rfl
    show Pl _ _ _ _ _ _ [iv z61] _ _
    refine y_ireturn rfl (retI_z (by omega)) ?_
    exact ⟨hHT7, hFT7, _, rfl, ⟨by omega, by omega⟩, (by first | (have u := K75; refine ⟨fun q => absurd q (by omega), fun _ => ⟨_, _, F75, X75, ?_⟩⟩; first | (have u := K91; first | (have u := e128; exact Or.inr (Or.inr ⟨by omega, by rw [← a15]; omega, _, _, F91, S91, Or.inr ⟨by omega, rfl, E128⟩⟩)) | exact Or.inr (Or.inr ⟨by omega, by rw [← a15]; omega, _, _, F91, S91, Or.inl ⟨by omega, by omega, Y104⟩⟩)) | (have u := Y119; exact Or.inr (Or.inl ⟨by omega, by rw [← a15]; omega, by omega, Y119⟩)) | exact Or.inl ⟨by omega, by omega, Y104⟩) | exact ⟨fun _ => ⟨by omega, f49 hf⟩, fun q => absurd q (by omega)⟩)⟩
end
