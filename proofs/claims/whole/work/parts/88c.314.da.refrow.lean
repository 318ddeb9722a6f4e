section
/-! the reference: asked and does, whatever the sort -/
def md_mo_asked__a : List rec := [(904, 905, 64, 65), (904, 905, 104, 105), (904, 905, 105, 106), (904, 905, 106, 107), (904, 905, 108, 109), (904, 905, 109, 110), (904, 905, 110, 111), (904, 905, 112, 113), (904, 905, 113, 114), (904, 905, 115, 116), (904, 905, 116, 117), (904, 905, 117, 118), (904, 905, 125, 126), (904, 905, 128, 129), (904, 905, 129, 130), (904, 905, 130, 131), (904, 905, 142, 143), (904, 905, 144, 145), (904, 905, 146, 147), (904, 905, 147, 148), (904, 905, 150, 151), (904, 905, 151, 152), (904, 905, 153, 154), (904, 905, 154, 155), (904, 905, 156, 157), (904, 905, 157, 158), (904, 905, 158, 159), (904, 905, 160, 161), (966, 967, 0, 100000), (967, 968, 0, 100000), (968, 969, 0, 100000), (969, 970, 0, 100000), (970, 971, 0, 100000), (971, 972, 0, 100000), (972, 973, 0, 100000), (973, 974, 0, 100000), (974, 975, 0, 100000), (975, 976, 0, 100000), (976, 977, 0, 100000), (977, 978, 0, 100000), (978, 979, 0, 100000), (979, 980, 0, 100000), (980, 981, 0, 100000), (981, 982, 0, 100000), (982, 983, 0, 100000), (983, 984, 0, 100000), (984, 985, 0, 100000), (985, 986, 0, 100000), (986, 987, 0, 100000), (987, 988, 0, 100000), (988, 989, 0, 100000), (989, 990, 0, 100000), (990, 991, 0, 100000), (991, 992, 0, 100000), (992, 993, 0, 100000), (993, 994, 0, 100000), (994, 995, 0, 100000), (1000, 1001, 0, 1)]
def PX_mo_asked_0 (S : sS) (first : Int) : Prop := (Xi S 904 70 = 0)
def QX_mo_asked_0 (S S1 : sS) (first : Int) : Prop := (RA0 S S1) ∧ FR md_mo_asked__0 S S1 ∧ FR md_mo_asked__0f S S1
theorem a_mo_asked_0 {S : sS} (hH : RI S) (first : Int) (hf : 0 ≤ first ∧ first ≤ 5001) (hp : PX_mo_asked_0 S first) (d : Nat) : Mp lay0 (d + 13) m_mo_asked [.ref 904, iv first] S (fun r S1 => RI S1 ∧ FR md_mo_asked__a S S1 ∧ (r = none ∧ QX_mo_asked_0 S S1 first)) := by
  refine Mp_w (Mp_and (t_mo_asked__0 hH  first hf (hp) d) (t_mo_asked__0f hH  first hf (hp) d)) (fun r S1 h => ?_)
  obtain ⟨⟨r0, f0, e0, p0_0⟩, ⟨r1, f1, e1⟩⟩ := h
  exact ⟨r0, f0.up (rfl : sub md_mo_asked__0 md_mo_asked__a = true), e0, p0_0, f0, f1⟩
def PX_mo_asked_1 (S : sS) (first : Int) : Prop := (LSP S) ∧ (0 ≤ Xi S 904 15) ∧ (RBD S) ∧ (ABV S) ∧ (BYT S 906) ∧ (Hid (∀ j : Nat, -1 ≤ Xi S 915 j ∧ Xi S 915 j ≤ 300)) ∧ (Hid (∀ j : Nat, (j : Int) < Xi S 904 15 → Xi S 914 j = 0 → Xi S 915 j ≤ 15)) ∧ (0 ≤ (Xi S 908 (Xi S 904 81).toNat) ∧ 0 ≤ Xi S 909 (Xi S 904 81).toNat ∧ (Xi S 908 (Xi S 904 81).toNat + 1 + Xi S 909 (Xi S 904 81).toNat) < 5000) ∧ (Xi S 904 70 = 1)
def QX_mo_asked_1 (S S1 : sS) (first : Int) : Prop := (∃ P : sS, FR lA S P ∧ (Xi P 904 106 = 0 ∧ Xi P 904 108 = 0) ∧ RCO P S1) ∧ FR md_mo_asked__1 S S1 ∧ FR md_mo_asked__1f S S1
theorem a_mo_asked_1 {S : sS} (hH : RI S) (first : Int) (hf : 0 ≤ first ∧ first ≤ 5001) (hp : PX_mo_asked_1 S first) (d : Nat) : Mp lay0 (d + 13) m_mo_asked [.ref 904, iv first] S (fun r S1 => RI S1 ∧ FR md_mo_asked__a S S1 ∧ (r = none ∧ QX_mo_asked_1 S S1 first)) := by
  refine Mp_w (Mp_and (t_mo_asked__1 hH  first hf (hp.1) (hp.2.1) (hp.2.2.1) (hp.2.2.2.1) (hp.2.2.2.2.1) (hp.2.2.2.2.2.1) (hp.2.2.2.2.2.2.1) (hp.2.2.2.2.2.2.2.1) (hp.2.2.2.2.2.2.2.2) d) (t_mo_asked__1f hH  first hf (hp.1) (hp.2.1) (hp.2.2.1) (hp.2.2.2.1) (hp.2.2.2.2.1) (hp.2.2.2.2.2.1) (hp.2.2.2.2.2.2.1) (hp.2.2.2.2.2.2.2.1) (hp.2.2.2.2.2.2.2.2) d)) (fun r S1 h => ?_)
  obtain ⟨⟨r0, f0, e0, p0_0⟩, ⟨r1, f1, e1⟩⟩ := h
  exact ⟨r0, f0.up (rfl : sub md_mo_asked__1 md_mo_asked__a = true), e0, p0_0, f0, f1⟩
def PX_mo_asked_2 (S : sS) (first : Int) : Prop := (LSP S) ∧ (0 ≤ Xi S 904 15) ∧ (RBD S) ∧ (ABV S) ∧ (Hid (∀ j : Nat, -1 ≤ Xi S 918 j ∧ Xi S 918 j ≤ 15)) ∧ (LXR S) ∧ (0 ≤ Xi S 904 32 ∧ Xi S 904 32 ≤ 12) ∧ (0 ≤ Xi S 904 94 ∧ Xi S 904 94 ≤ 1700) ∧ (0 ≤ Xi S 904 117 ∧ Xi S 904 117 + Xi S 904 94 ≤ 2400) ∧ (Hid (∀ k : Nat, (k : Int) < Xi S 904 94 → TRK S k)) ∧ (Xi S 904 70 = 2) ∧ (-1 ≤ rnR S 0 0 ∧ rnR S 0 0 ≤ 15)
def QX_mo_asked_2 (S S1 : sS) (first : Int) : Prop := (∃ P : sS, FR lA S P ∧ (Xi P 904 106 = 0 ∧ Xi P 904 108 = 0 ∧ Xi P 904 116 = -1) ∧ RA2 md_mo_kindOfRun__p md_mo_mustBeNew__p md_mo_need__p md_mo_testMeant__p P S1) ∧ FR md_mo_asked__2 S S1 ∧ FR md_mo_asked__2f S S1
theorem a_mo_asked_2 {S : sS} (hH : RI S) (first : Int) (hf : 0 ≤ first ∧ first ≤ 5001) (hp : PX_mo_asked_2 S first) (d : Nat) : Mp lay0 (d + 13) m_mo_asked [.ref 904, iv first] S (fun r S1 => RI S1 ∧ FR md_mo_asked__a S S1 ∧ (r = none ∧ QX_mo_asked_2 S S1 first)) := by
  refine Mp_w (Mp_and (t_mo_asked__2 hH  first hf (hp.1) (hp.2.1) (hp.2.2.1) (hp.2.2.2.1) (hp.2.2.2.2.1) (hp.2.2.2.2.2.1) (hp.2.2.2.2.2.2.1) (hp.2.2.2.2.2.2.2.1) (hp.2.2.2.2.2.2.2.2.1) (hp.2.2.2.2.2.2.2.2.2.1) (hp.2.2.2.2.2.2.2.2.2.2.1) (hp.2.2.2.2.2.2.2.2.2.2.2) d) (t_mo_asked__2f hH  first hf (hp.1) (hp.2.1) (hp.2.2.1) (hp.2.2.2.1) (hp.2.2.2.2.1) (hp.2.2.2.2.2.1) (hp.2.2.2.2.2.2.1) (hp.2.2.2.2.2.2.2.1) (hp.2.2.2.2.2.2.2.2.1) (hp.2.2.2.2.2.2.2.2.2.1) (hp.2.2.2.2.2.2.2.2.2.2.1) (hp.2.2.2.2.2.2.2.2.2.2.2) d)) (fun r S1 h => ?_)
  obtain ⟨⟨r0, f0, e0, p0_0⟩, ⟨r1, f1, e1⟩⟩ := h
  exact ⟨r0, f0.up (rfl : sub md_mo_asked__2 md_mo_asked__a = true), e0, p0_0, f0, f1⟩
def PX_mo_asked_3 (S : sS) (first : Int) : Prop := (LSP S) ∧ (0 ≤ Xi S 904 15) ∧ (RBD S) ∧ (ABV S) ∧ (Hid (∀ j : Nat, -1 ≤ Xi S 918 j ∧ Xi S 918 j ≤ 15)) ∧ (LXR S) ∧ (0 ≤ Xi S 904 32 ∧ Xi S 904 32 ≤ 12) ∧ (Hid (∀ k : Nat, (k : Int) < Xi S 904 15 → Xi S 914 k ≤ 1 → Xi S 915 k ≤ 15)) ∧ (Hid (∀ j : Nat, -2 ≤ Xi S 942 j ∧ Xi S 942 j ≤ 15)) ∧ (BYT S 906) ∧ (Hid (∀ j : Nat, (j : Int) < Xi S 904 15 → Xi S 914 j = 7 → 0 ≤ Xi S 915 j ∧ Xi S 915 j ≤ 11)) ∧ (Hid (AGB S)) ∧ (0 ≤ Xi S 904 94 ∧ Xi S 904 94 ≤ 1700) ∧ (0 ≤ Xi S 904 98 ∧ Xi S 904 98 ≤ 1700) ∧ (0 ≤ Xi S 904 117 ∧ Xi S 904 117 + Xi S 904 94 + Xi S 904 98 ≤ 2400) ∧ (0 ≤ Xi S 904 125 ∧ Xi S 904 125 + Xi S 904 98 ≤ 2000) ∧ (0 ≤ Xi S 904 130 ∧ Xi S 904 130 ≤ 24) ∧ (Hid (∀ k : Nat, (k : Int) < Xi S 904 94 → TRK S k)) ∧ (Hid (∀ k : Nat, (k : Int) < Xi S 904 98 → PKB S k)) ∧ (3 ≤ Xi S 904 70 ∧ Xi S 904 70 ≤ 6)
def QX_mo_asked_3 (S S1 : sS) (first : Int) : Prop := (∃ P : sS, FR lA S P ∧ (Xi P 904 106 = 0 ∧ Xi P 904 108 = 0 ∧ Xi P 904 115 = -1 ∧ Xi P 904 116 = -1) ∧ RML P S1 first) ∧ FR md_mo_asked__3 S S1 ∧ FR md_mo_asked__3f S S1
theorem a_mo_asked_3 {S : sS} (hH : RI S) (first : Int) (hf : 0 ≤ first ∧ first ≤ 5001) (hp : PX_mo_asked_3 S first) (d : Nat) : Mp lay0 (d + 13) m_mo_asked [.ref 904, iv first] S (fun r S1 => RI S1 ∧ FR md_mo_asked__a S S1 ∧ (r = none ∧ QX_mo_asked_3 S S1 first)) := by
  refine Mp_w (Mp_and (t_mo_asked__3 hH  first hf (hp.1) (hp.2.1) (hp.2.2.1) (hp.2.2.2.1) (hp.2.2.2.2.1) (hp.2.2.2.2.2.1) (hp.2.2.2.2.2.2.1) (hp.2.2.2.2.2.2.2.1) (hp.2.2.2.2.2.2.2.2.1) (hp.2.2.2.2.2.2.2.2.2.1) (hp.2.2.2.2.2.2.2.2.2.2.1) (hp.2.2.2.2.2.2.2.2.2.2.2.1) (hp.2.2.2.2.2.2.2.2.2.2.2.2.1) (hp.2.2.2.2.2.2.2.2.2.2.2.2.2.1) (hp.2.2.2.2.2.2.2.2.2.2.2.2.2.2.1) (hp.2.2.2.2.2.2.2.2.2.2.2.2.2.2.2.1) (hp.2.2.2.2.2.2.2.2.2.2.2.2.2.2.2.2.1) (hp.2.2.2.2.2.2.2.2.2.2.2.2.2.2.2.2.2.1) (hp.2.2.2.2.2.2.2.2.2.2.2.2.2.2.2.2.2.2.1) (hp.2.2.2.2.2.2.2.2.2.2.2.2.2.2.2.2.2.2.2) d) (t_mo_asked__3f hH  first hf (hp.1) (hp.2.1) (hp.2.2.1) (hp.2.2.2.1) (hp.2.2.2.2.1) (hp.2.2.2.2.2.1) (hp.2.2.2.2.2.2.1) (hp.2.2.2.2.2.2.2.1) (hp.2.2.2.2.2.2.2.2.1) (hp.2.2.2.2.2.2.2.2.2.1) (hp.2.2.2.2.2.2.2.2.2.2.1) (hp.2.2.2.2.2.2.2.2.2.2.2.1) (hp.2.2.2.2.2.2.2.2.2.2.2.2.1) (hp.2.2.2.2.2.2.2.2.2.2.2.2.2.1) (hp.2.2.2.2.2.2.2.2.2.2.2.2.2.2.1) (hp.2.2.2.2.2.2.2.2.2.2.2.2.2.2.2.1) (hp.2.2.2.2.2.2.2.2.2.2.2.2.2.2.2.2.1) (hp.2.2.2.2.2.2.2.2.2.2.2.2.2.2.2.2.2.1) (hp.2.2.2.2.2.2.2.2.2.2.2.2.2.2.2.2.2.2.1) (hp.2.2.2.2.2.2.2.2.2.2.2.2.2.2.2.2.2.2.2) d)) (fun r S1 h => ?_)
  obtain ⟨⟨r0, f0, e0, p0_0⟩, ⟨r1, f1, e1⟩⟩ := h
  exact ⟨r0, f0.up (rfl : sub md_mo_asked__3 md_mo_asked__a = true), e0, p0_0, f0, f1⟩
def PX_mo_asked_7 (S : sS) (first : Int) : Prop := (LSP S) ∧ (0 ≤ Xi S 904 15) ∧ (RBD S) ∧ (Xi S 904 70 = 7) ∧ (pR S 0 < pR S 1) ∧ (0 ≤ Xi S 904 47 ∧ Xi S 904 47 ≤ 8)
def QX_mo_asked_7 (S S1 : sS) (first : Int) : Prop := (RVB S (NT3 S1)) ∧ FR md_mo_asked__7 S S1 ∧ FR md_mo_asked__7f S S1
theorem a_mo_asked_7 {S : sS} (hH : RI S) (first : Int) (hf : 0 ≤ first ∧ first ≤ 5001) (hp : PX_mo_asked_7 S first) (d : Nat) : Mp lay0 (d + 13) m_mo_asked [.ref 904, iv first] S (fun r S1 => RI S1 ∧ FR md_mo_asked__a S S1 ∧ (r = none ∧ QX_mo_asked_7 S S1 first)) := by
  refine Mp_w (Mp_and (t_mo_asked__7 hH  first hf (hp.1) (hp.2.1) (hp.2.2.1) (hp.2.2.2.1) (hp.2.2.2.2.1) (hp.2.2.2.2.2) d) (t_mo_asked__7f hH  first hf (hp.1) (hp.2.1) (hp.2.2.1) (hp.2.2.2.1) (hp.2.2.2.2.1) (hp.2.2.2.2.2) d)) (fun r S1 h => ?_)
  obtain ⟨⟨r0, f0, e0, p0_0⟩, ⟨r1, f1, e1⟩⟩ := h
  exact ⟨r0, f0.up (rfl : sub md_mo_asked__7 md_mo_asked__a = true), e0, p0_0, f0, f1⟩
def PX_mo_asked_8 (S : sS) (first : Int) : Prop := (LSP S) ∧ (0 ≤ Xi S 904 15) ∧ (RBD S) ∧ (Xi S 904 70 = 8) ∧ (pR S 0 < pR S 1)
def QX_mo_asked_8 (S S1 : sS) (first : Int) : Prop := (RPL S (NT3 S1)) ∧ FR md_mo_asked__8 S S1 ∧ FR md_mo_asked__8f S S1
theorem a_mo_asked_8 {S : sS} (hH : RI S) (first : Int) (hf : 0 ≤ first ∧ first ≤ 5001) (hp : PX_mo_asked_8 S first) (d : Nat) : Mp lay0 (d + 13) m_mo_asked [.ref 904, iv first] S (fun r S1 => RI S1 ∧ FR md_mo_asked__a S S1 ∧ (r = none ∧ QX_mo_asked_8 S S1 first)) := by
  refine Mp_w (Mp_and (t_mo_asked__8 hH  first hf (hp.1) (hp.2.1) (hp.2.2.1) (hp.2.2.2.1) (hp.2.2.2.2) d) (t_mo_asked__8f hH  first hf (hp.1) (hp.2.1) (hp.2.2.1) (hp.2.2.2.1) (hp.2.2.2.2) d)) (fun r S1 h => ?_)
  obtain ⟨⟨r0, f0, e0, p0_0⟩, ⟨r1, f1, e1⟩⟩ := h
  exact ⟨r0, f0.up (rfl : sub md_mo_asked__8 md_mo_asked__a = true), e0, p0_0, f0, f1⟩
def PX_mo_asked_9 (S : sS) (first : Int) : Prop := (LSP S) ∧ (0 ≤ Xi S 904 15) ∧ (RBD S) ∧ (LXR S) ∧ (ABV S) ∧ (Hid (∀ j : Nat, -1 ≤ Xi S 918 j ∧ Xi S 918 j ≤ 15)) ∧ (rnR S 0 7 ≤ 11) ∧ (rnR S 1 0 ≤ 15) ∧ (pR S 0 < pR S 1) ∧ (pR S 1 < Xi S 908 (Xi S 904 78).toNat) ∧ (Hid (Xi S 907 (Xi S 904 78).toNat = 4 → 0 ≤ Xj S 910 (Xi S 904 78).toNat ∧ Xj S 910 (Xi S 904 78).toNat ≤ 2147483647)) ∧ (Xi S 908 (Xi S 904 78).toNat ≤ 100000) ∧ (Xi S 904 70 = 9)
def QX_mo_asked_9 (S S1 : sS) (first : Int) : Prop := (RPY S S1) ∧ (KQ S1 S (Xi S 904 117)) ∧ FR md_mo_asked__9 S S1 ∧ FR md_mo_asked__9f S S1 ∧ FR md_mo_asked__9k S S1
theorem a_mo_asked_9 {S : sS} (hH : RI S) (first : Int) (hf : 0 ≤ first ∧ first ≤ 5001) (hp : PX_mo_asked_9 S first) (d : Nat) : Mp lay0 (d + 13) m_mo_asked [.ref 904, iv first] S (fun r S1 => RI S1 ∧ FR md_mo_asked__a S S1 ∧ (r = none ∧ QX_mo_asked_9 S S1 first)) := by
  refine Mp_w (Mp_and (Mp_and (t_mo_asked__9 hH  first hf (hp.1) (hp.2.1) (hp.2.2.1) (hp.2.2.2.1) (hp.2.2.2.2.1) (hp.2.2.2.2.2.1) (hp.2.2.2.2.2.2.1) (hp.2.2.2.2.2.2.2.1) (hp.2.2.2.2.2.2.2.2.1) (hp.2.2.2.2.2.2.2.2.2.1) (hp.2.2.2.2.2.2.2.2.2.2.1) (hp.2.2.2.2.2.2.2.2.2.2.2.1) (hp.2.2.2.2.2.2.2.2.2.2.2.2) d) (t_mo_asked__9f hH  first hf (hp.1) (hp.2.1) (hp.2.2.1) (hp.2.2.2.1) (hp.2.2.2.2.1) (hp.2.2.2.2.2.1) (hp.2.2.2.2.2.2.1) (hp.2.2.2.2.2.2.2.1) (hp.2.2.2.2.2.2.2.2.1) (hp.2.2.2.2.2.2.2.2.2.1) (hp.2.2.2.2.2.2.2.2.2.2.1) (hp.2.2.2.2.2.2.2.2.2.2.2.1) (hp.2.2.2.2.2.2.2.2.2.2.2.2) d)) (t_mo_asked__9k hH  first hf (hp.1) (hp.2.1) (hp.2.2.1) (hp.2.2.2.1) (hp.2.2.2.2.1) (hp.2.2.2.2.2.1) (hp.2.2.2.2.2.2.1) (hp.2.2.2.2.2.2.2.1) (hp.2.2.2.2.2.2.2.2.1) (hp.2.2.2.2.2.2.2.2.2.1) (hp.2.2.2.2.2.2.2.2.2.2.1) (hp.2.2.2.2.2.2.2.2.2.2.2.1) (hp.2.2.2.2.2.2.2.2.2.2.2.2) d)) (fun r S1 h => ?_)
  obtain ⟨⟨⟨r0, f0, e0, p0_0⟩, ⟨r1, f1, e1⟩⟩, ⟨r2, f2, e2, p2_0⟩⟩ := h
  exact ⟨r0, f0.up (rfl : sub md_mo_asked__9 md_mo_asked__a = true), e0, p0_0, p2_0, f0, f1, f2⟩
def PX_mo_asked_10 (S : sS) (first : Int) : Prop := (LSP S) ∧ (0 ≤ Xi S 904 15) ∧ (RBD S) ∧ (Xi S 904 70 = 10) ∧ (0 ≤ Xi S 904 71 ∧ Xi S 904 71 ≤ 2600 ∧ 0 ≤ Xi S 904 72 ∧ Xi S 904 72 ≤ 2600) ∧ (PLO S (Xi S 904 71) (Xi S 904 72).toNat (wK S)) ∧ (0 ≤ Xi S 904 49 ∧ Xi S 904 49 ≤ 100 ∧ 0 ≤ Xi S 904 18 ∧ Xi S 904 18 ≤ 100 ∧ 0 ≤ Xi S 904 16 ∧ Xi S 904 16 ≤ 100)
def QX_mo_asked_10 (S S1 : sS) (first : Int) : Prop := (RKD S (Xi S 904 71) (cK S) (mK S) (Xi S 904 72).toNat (wK S) (NT3 S1)) ∧ FR md_mo_asked__10 S S1 ∧ FR md_mo_asked__10f S S1
theorem a_mo_asked_10 {S : sS} (hH : RI S) (first : Int) (hf : 0 ≤ first ∧ first ≤ 5001) (hp : PX_mo_asked_10 S first) (d : Nat) : Mp lay0 (d + 13) m_mo_asked [.ref 904, iv first] S (fun r S1 => RI S1 ∧ FR md_mo_asked__a S S1 ∧ (r = none ∧ QX_mo_asked_10 S S1 first)) := by
  refine Mp_w (Mp_and (t_mo_asked__10 hH  first hf (hp.1) (hp.2.1) (hp.2.2.1) (hp.2.2.2.1) (hp.2.2.2.2.1) (hp.2.2.2.2.2.1) (hp.2.2.2.2.2.2) d) (t_mo_asked__10f hH  first hf (hp.1) (hp.2.1) (hp.2.2.1) (hp.2.2.2.1) (hp.2.2.2.2.1) (hp.2.2.2.2.2.1) (hp.2.2.2.2.2.2) d)) (fun r S1 h => ?_)
  obtain ⟨⟨r0, f0, e0, p0_0⟩, ⟨r1, f1, e1⟩⟩ := h
  exact ⟨r0, f0.up (rfl : sub md_mo_asked__10 md_mo_asked__a = true), e0, p0_0, f0, f1⟩
def PX_mo_asked_11 (S : sS) (first : Int) : Prop := (LSP S) ∧ (0 ≤ Xi S 904 15) ∧ (RBD S) ∧ (Xi S 904 70 = 11) ∧ (0 ≤ Xi S 904 71 ∧ Xi S 904 71 ≤ 2600 ∧ 0 ≤ Xi S 904 72 ∧ Xi S 904 72 ≤ 2600) ∧ (PLO S (Xi S 904 71) (Xi S 904 72).toNat (wK S)) ∧ (0 ≤ Xi S 904 49 ∧ Xi S 904 49 ≤ 100 ∧ 0 ≤ Xi S 904 18 ∧ Xi S 904 18 ≤ 100 ∧ 0 ≤ Xi S 904 16 ∧ Xi S 904 16 ≤ 100)
def QX_mo_asked_11 (S S1 : sS) (first : Int) : Prop := (RKD S (Xi S 904 71) (cK S) (mK S) (Xi S 904 72).toNat (wK S) (NT3 S1)) ∧ FR md_mo_asked__11 S S1 ∧ FR md_mo_asked__11f S S1
theorem a_mo_asked_11 {S : sS} (hH : RI S) (first : Int) (hf : 0 ≤ first ∧ first ≤ 5001) (hp : PX_mo_asked_11 S first) (d : Nat) : Mp lay0 (d + 13) m_mo_asked [.ref 904, iv first] S (fun r S1 => RI S1 ∧ FR md_mo_asked__a S S1 ∧ (r = none ∧ QX_mo_asked_11 S S1 first)) := by
  refine Mp_w (Mp_and (t_mo_asked__11 hH  first hf (hp.1) (hp.2.1) (hp.2.2.1) (hp.2.2.2.1) (hp.2.2.2.2.1) (hp.2.2.2.2.2.1) (hp.2.2.2.2.2.2) d) (t_mo_asked__11f hH  first hf (hp.1) (hp.2.1) (hp.2.2.1) (hp.2.2.2.1) (hp.2.2.2.2.1) (hp.2.2.2.2.2.1) (hp.2.2.2.2.2.2) d)) (fun r S1 h => ?_)
  obtain ⟨⟨r0, f0, e0, p0_0⟩, ⟨r1, f1, e1⟩⟩ := h
  exact ⟨r0, f0.up (rfl : sub md_mo_asked__11 md_mo_asked__a = true), e0, p0_0, f0, f1⟩
def PX_mo_asked_12 (S : sS) (first : Int) : Prop := (LSP S) ∧ (0 ≤ Xi S 904 15) ∧ (RBD S) ∧ (LXR S) ∧ (ABV S) ∧ (0 ≤ Xi S 904 19 ∧ Xi S 904 19 ≤ 24) ∧ (Hid (∀ j : Nat, -1 ≤ Xi S 918 j ∧ Xi S 918 j ≤ 15)) ∧ (0 ≤ Xi S 904 71 ∧ Xi S 904 71 ≤ 2600 ∧ 0 ≤ Xi S 904 72 ∧ Xi S 904 72 ≤ 2600) ∧ (Hid (∀ k : Nat, (k : Int) < Xi S 904 15 → Xi S 914 k ≤ 1 → Xi S 915 k ≤ 15)) ∧ (0 ≤ Xi S 904 32 ∧ Xi S 904 32 ≤ 12) ∧ (-1 ≤ Xi S 904 74 ∧ Xi S 904 74 ≤ 2600) ∧ (PLL S (Xi S 904 71) (Xi S 904 72).toNat) ∧ (Xi S 904 70 = 12) ∧ (Hid ((∀ k : Nat, k < (Xi S 904 72).toNat → pR S (Xi S 904 71 + k) < pR S (Xi S 904 78)) ∧ (Xi S 904 73 ≠ 0 → pR S (Xi S 904 78) < pR S (Xi S 904 74)))) ∧ (0 ≤ fW S ∧ fW S ≤ 5100 ∧ 0 ≤ nW S ∧ nW S ≤ 5100) ∧ (0 ≤ Xi S 904 78 ∧ Xi S 904 78 ≤ 2600)
def QX_mo_asked_12 (S S1 : sS) (first : Int) : Prop := (RO12 S S1 1) ∧ FR md_mo_asked__12 S S1 ∧ FR md_mo_asked__12f S S1
theorem a_mo_asked_12 {S : sS} (hH : RI S) (first : Int) (hf : 0 ≤ first ∧ first ≤ 5001) (hp : PX_mo_asked_12 S first) (d : Nat) : Mp lay0 (d + 13) m_mo_asked [.ref 904, iv first] S (fun r S1 => RI S1 ∧ FR md_mo_asked__a S S1 ∧ (r = none ∧ QX_mo_asked_12 S S1 first)) := by
  refine Mp_w (Mp_and (t_mo_asked__12 hH  first hf (hp.1) (hp.2.1) (hp.2.2.1) (hp.2.2.2.1) (hp.2.2.2.2.1) (hp.2.2.2.2.2.1) (hp.2.2.2.2.2.2.1) (hp.2.2.2.2.2.2.2.1) (hp.2.2.2.2.2.2.2.2.1) (hp.2.2.2.2.2.2.2.2.2.1) (hp.2.2.2.2.2.2.2.2.2.2.1) (hp.2.2.2.2.2.2.2.2.2.2.2.1) (hp.2.2.2.2.2.2.2.2.2.2.2.2.1) (hp.2.2.2.2.2.2.2.2.2.2.2.2.2.1) (hp.2.2.2.2.2.2.2.2.2.2.2.2.2.2.1) (hp.2.2.2.2.2.2.2.2.2.2.2.2.2.2.2) d) (t_mo_asked__12f hH  first hf (hp.1) (hp.2.1) (hp.2.2.1) (hp.2.2.2.1) (hp.2.2.2.2.1) (hp.2.2.2.2.2.1) (hp.2.2.2.2.2.2.1) (hp.2.2.2.2.2.2.2.1) (hp.2.2.2.2.2.2.2.2.1) (hp.2.2.2.2.2.2.2.2.2.1) (hp.2.2.2.2.2.2.2.2.2.2.1) (hp.2.2.2.2.2.2.2.2.2.2.2.1) (hp.2.2.2.2.2.2.2.2.2.2.2.2.1) (hp.2.2.2.2.2.2.2.2.2.2.2.2.2.1) (hp.2.2.2.2.2.2.2.2.2.2.2.2.2.2.1) (hp.2.2.2.2.2.2.2.2.2.2.2.2.2.2.2) d)) (fun r S1 h => ?_)
  obtain ⟨⟨r0, f0, e0, p0_0⟩, ⟨r1, f1, e1⟩⟩ := h
  exact ⟨r0, f0.up (rfl : sub md_mo_asked__12 md_mo_asked__a = true), e0, p0_0, f0, f1⟩
def PX_mo_asked_13 (S : sS) (first : Int) : Prop := (LSP S) ∧ (0 ≤ Xi S 904 15) ∧ (RBD S) ∧ (LXR S) ∧ (ABV S) ∧ (0 ≤ Xi S 904 19 ∧ Xi S 904 19 ≤ 24) ∧ (Hid (∀ j : Nat, -1 ≤ Xi S 918 j ∧ Xi S 918 j ≤ 15)) ∧ (0 ≤ Xi S 904 71 ∧ Xi S 904 71 ≤ 2600 ∧ 0 ≤ Xi S 904 72 ∧ Xi S 904 72 ≤ 2600) ∧ (Hid (∀ k : Nat, (k : Int) < Xi S 904 15 → Xi S 914 k ≤ 1 → Xi S 915 k ≤ 15)) ∧ (0 ≤ Xi S 904 32 ∧ Xi S 904 32 ≤ 12) ∧ (-1 ≤ Xi S 904 74 ∧ Xi S 904 74 ≤ 2600) ∧ (PLL S (Xi S 904 71) (Xi S 904 72).toNat) ∧ (Xi S 904 70 = 13) ∧ (Hid (Xi S 904 73 ≠ 0 → ∀ k : Nat, k < (Xi S 904 72).toNat → pR S (Xi S 904 71 + k) < pR S (Xi S 904 74)))
def QX_mo_asked_13 (S S1 : sS) (first : Int) : Prop := (RO12 S S1 0) ∧ FR md_mo_asked__13 S S1 ∧ FR md_mo_asked__13f S S1
theorem a_mo_asked_13 {S : sS} (hH : RI S) (first : Int) (hf : 0 ≤ first ∧ first ≤ 5001) (hp : PX_mo_asked_13 S first) (d : Nat) : Mp lay0 (d + 13) m_mo_asked [.ref 904, iv first] S (fun r S1 => RI S1 ∧ FR md_mo_asked__a S S1 ∧ (r = none ∧ QX_mo_asked_13 S S1 first)) := by
  refine Mp_w (Mp_and (t_mo_asked__13 hH  first hf (hp.1) (hp.2.1) (hp.2.2.1) (hp.2.2.2.1) (hp.2.2.2.2.1) (hp.2.2.2.2.2.1) (hp.2.2.2.2.2.2.1) (hp.2.2.2.2.2.2.2.1) (hp.2.2.2.2.2.2.2.2.1) (hp.2.2.2.2.2.2.2.2.2.1) (hp.2.2.2.2.2.2.2.2.2.2.1) (hp.2.2.2.2.2.2.2.2.2.2.2.1) (hp.2.2.2.2.2.2.2.2.2.2.2.2.1) (hp.2.2.2.2.2.2.2.2.2.2.2.2.2) d) (t_mo_asked__13f hH  first hf (hp.1) (hp.2.1) (hp.2.2.1) (hp.2.2.2.1) (hp.2.2.2.2.1) (hp.2.2.2.2.2.1) (hp.2.2.2.2.2.2.1) (hp.2.2.2.2.2.2.2.1) (hp.2.2.2.2.2.2.2.2.1) (hp.2.2.2.2.2.2.2.2.2.1) (hp.2.2.2.2.2.2.2.2.2.2.1) (hp.2.2.2.2.2.2.2.2.2.2.2.1) (hp.2.2.2.2.2.2.2.2.2.2.2.2.1) (hp.2.2.2.2.2.2.2.2.2.2.2.2.2) d)) (fun r S1 h => ?_)
  obtain ⟨⟨r0, f0, e0, p0_0⟩, ⟨r1, f1, e1⟩⟩ := h
  exact ⟨r0, f0.up (rfl : sub md_mo_asked__13 md_mo_asked__a = true), e0, p0_0, f0, f1⟩
def PX_mo_asked_14 (S : sS) (first : Int) : Prop := (LSP S) ∧ (0 ≤ Xi S 904 15) ∧ (RBD S) ∧ (Xi S 904 70 = 14) ∧ (ABV S) ∧ (0 ≤ Xi S 904 19 ∧ Xi S 904 19 ≤ 24) ∧ (Hid (∀ j : Nat, -1 ≤ Xi S 918 j ∧ Xi S 918 j ≤ 15)) ∧ (0 ≤ Xi S 904 71 ∧ Xi S 904 71 ≤ 2600 ∧ -2 ≤ Xi S 904 78 ∧ Xi S 904 78 ≤ 2600 ∧ -1 ≤ Xi S 904 74 ∧ Xi S 904 74 ≤ 2600 ∧ 0 ≤ Xi S 904 72 ∧ Xi S 904 72 ≤ 2600) ∧ (Hid ((1 < Xi S 904 72 → pR S (Xi S 904 71) < pR S (Xi S 904 71 + 1) ∧ pR S (Xi S 904 71 + 1) < pR S (Xi S 904 78)) ∧ pR S (Xi S 904 71) < pR S (Xi S 904 78) ∧ pR S (Xi S 904 78) < pR S (Xi S 904 74)))
def QX_mo_asked_14 (S S1 : sS) (first : Int) : Prop := (RW14 S (NT3 S1)) ∧ FR md_mo_asked__14 S S1 ∧ FR md_mo_asked__14f S S1
theorem a_mo_asked_14 {S : sS} (hH : RI S) (first : Int) (hf : 0 ≤ first ∧ first ≤ 5001) (hp : PX_mo_asked_14 S first) (d : Nat) : Mp lay0 (d + 13) m_mo_asked [.ref 904, iv first] S (fun r S1 => RI S1 ∧ FR md_mo_asked__a S S1 ∧ (r = none ∧ QX_mo_asked_14 S S1 first)) := by
  refine Mp_w (Mp_and (t_mo_asked__14 hH  first hf (hp.1) (hp.2.1) (hp.2.2.1) (hp.2.2.2.1) (hp.2.2.2.2.1) (hp.2.2.2.2.2.1) (hp.2.2.2.2.2.2.1) (hp.2.2.2.2.2.2.2.1) (hp.2.2.2.2.2.2.2.2) d) (t_mo_asked__14f hH  first hf (hp.1) (hp.2.1) (hp.2.2.1) (hp.2.2.2.1) (hp.2.2.2.2.1) (hp.2.2.2.2.2.1) (hp.2.2.2.2.2.2.1) (hp.2.2.2.2.2.2.2.1) (hp.2.2.2.2.2.2.2.2) d)) (fun r S1 h => ?_)
  obtain ⟨⟨r0, f0, e0, p0_0⟩, ⟨r1, f1, e1⟩⟩ := h
  exact ⟨r0, f0.up (rfl : sub md_mo_asked__14 md_mo_asked__a = true), e0, p0_0, f0, f1⟩
def PX_mo_asked_15a (S : sS) (first : Int) : Prop := (LSP S) ∧ (0 ≤ Xi S 904 15) ∧ (RBD S) ∧ (LXR S) ∧ (ABV S) ∧ (Xi S 904 76 ≠ 0) ∧ (0 ≤ Xi S 904 32 ∧ Xi S 904 32 ≤ 12) ∧ (rnR S (Xi S 904 71) 0 ≤ 15) ∧ (0 ≤ Xi S 950 (Xi S 904 78).toNat ∧ Xi S 950 (Xi S 904 78).toNat ≤ 5100) ∧ (0 ≤ Xi S 904 71 ∧ Xi S 904 71 ≤ 2600) ∧ (Hid (1 < Xi S 904 72 → pR S (Xi S 904 71) < pR S (Xi S 904 71 + 1))) ∧ (Hid (1 < Xi S 904 72 → pR S (Xi S 904 71 + 1) < Xi S 908 (fW S).toNat)) ∧ (Xi S 904 70 = 15)
def QX_mo_asked_15a (S S1 : sS) (first : Int) : Prop := (∃ P : sS, FR lA S P ∧ (Xi P 904 106 = 0 ∧ Xi P 904 108 = 0) ∧ RAU P S1) ∧ FR md_mo_asked__15a S S1 ∧ FR md_mo_asked__15af S S1
theorem a_mo_asked_15a {S : sS} (hH : RI S) (first : Int) (hf : 0 ≤ first ∧ first ≤ 5001) (hp : PX_mo_asked_15a S first) (d : Nat) : Mp lay0 (d + 13) m_mo_asked [.ref 904, iv first] S (fun r S1 => RI S1 ∧ FR md_mo_asked__a S S1 ∧ (r = none ∧ QX_mo_asked_15a S S1 first)) := by
  refine Mp_w (Mp_and (t_mo_asked__15a hH  first hf (hp.1) (hp.2.1) (hp.2.2.1) (hp.2.2.2.1) (hp.2.2.2.2.1) (hp.2.2.2.2.2.1) (hp.2.2.2.2.2.2.1) (hp.2.2.2.2.2.2.2.1) (hp.2.2.2.2.2.2.2.2.1) (hp.2.2.2.2.2.2.2.2.2.1) (hp.2.2.2.2.2.2.2.2.2.2.1) (hp.2.2.2.2.2.2.2.2.2.2.2.1) (hp.2.2.2.2.2.2.2.2.2.2.2.2) d) (t_mo_asked__15af hH  first hf (hp.1) (hp.2.1) (hp.2.2.1) (hp.2.2.2.1) (hp.2.2.2.2.1) (hp.2.2.2.2.2.1) (hp.2.2.2.2.2.2.1) (hp.2.2.2.2.2.2.2.1) (hp.2.2.2.2.2.2.2.2.1) (hp.2.2.2.2.2.2.2.2.2.1) (hp.2.2.2.2.2.2.2.2.2.2.1) (hp.2.2.2.2.2.2.2.2.2.2.2.1) (hp.2.2.2.2.2.2.2.2.2.2.2.2) d)) (fun r S1 h => ?_)
  obtain ⟨⟨r0, f0, e0, p0_0⟩, ⟨r1, f1, e1⟩⟩ := h
  exact ⟨r0, f0.up (rfl : sub md_mo_asked__15a md_mo_asked__a = true), e0, p0_0, f0, f1⟩
def PX_mo_asked_15b (S : sS) (first : Int) : Prop := (LSP S) ∧ (0 ≤ Xi S 904 15) ∧ (RBD S) ∧ (Xi S 904 76 = 0) ∧ (0 ≤ Xi S 904 78 ∧ Xi S 904 78 ≤ Xi S 904 69 ∧ Xi S 904 69 ≤ 2600) ∧ (0 ≤ Xi S 904 30 ∧ Xi S 904 30 ≤ 64) ∧ (0 ≤ Xi S 904 71 ∧ Xi S 904 71 ≤ 2600) ∧ (Xi S 904 70 = 15 ∧ Xi S 904 72 = 1 ∧ 1 < r2R S (Xi S 904 71) 2 3 ∧ Xi S 904 75 = 0)
def QX_mo_asked_15b (S S1 : sS) (first : Int) : Prop := (∃ P : sS, FR lA S P ∧ (Xi P 904 106 = 0 ∧ Xi P 904 108 = 0) ∧ RAW md_mo_askFifteen__3 P S1) ∧ FR md_mo_asked__15b S S1 ∧ FR md_mo_asked__15bf S S1
theorem a_mo_asked_15b {S : sS} (hH : RI S) (first : Int) (hf : 0 ≤ first ∧ first ≤ 5001) (hp : PX_mo_asked_15b S first) (d : Nat) : Mp lay0 (d + 13) m_mo_asked [.ref 904, iv first] S (fun r S1 => RI S1 ∧ FR md_mo_asked__a S S1 ∧ (r = none ∧ QX_mo_asked_15b S S1 first)) := by
  refine Mp_w (Mp_and (t_mo_asked__15b hH  first hf (hp.1) (hp.2.1) (hp.2.2.1) (hp.2.2.2.1) (hp.2.2.2.2.1) (hp.2.2.2.2.2.1) (hp.2.2.2.2.2.2.1) (hp.2.2.2.2.2.2.2) d) (t_mo_asked__15bf hH  first hf (hp.1) (hp.2.1) (hp.2.2.1) (hp.2.2.2.1) (hp.2.2.2.2.1) (hp.2.2.2.2.2.1) (hp.2.2.2.2.2.2.1) (hp.2.2.2.2.2.2.2) d)) (fun r S1 h => ?_)
  obtain ⟨⟨r0, f0, e0, p0_0⟩, ⟨r1, f1, e1⟩⟩ := h
  exact ⟨r0, f0.up (rfl : sub md_mo_asked__15b md_mo_asked__a = true), e0, p0_0, f0, f1⟩
def PX_mo_asked_15c (S : sS) (first : Int) : Prop := (LSP S) ∧ (0 ≤ Xi S 904 15) ∧ (RBD S) ∧ (LXR S) ∧ (ABV S) ∧ (Hid (∀ j : Nat, -1 ≤ Xi S 918 j ∧ Xi S 918 j ≤ 15)) ∧ (0 ≤ Xi S 904 71 ∧ Xi S 904 71 ≤ 2600 ∧ 0 ≤ Xi S 904 72 ∧ Xi S 904 72 ≤ 2600) ∧ (0 ≤ Xi S 904 19 ∧ Xi S 904 19 ≤ 24) ∧ (Hid (∀ k : Nat, (k : Int) < Xi S 904 15 → Xi S 914 k ≤ 1 → Xi S 915 k ≤ 15)) ∧ (0 ≤ Xi S 904 32 ∧ Xi S 904 32 ≤ 12) ∧ (Xi S 904 76 = 0) ∧ (Xi S 904 70 = 15) ∧ (Hid (1 < tU5 S → Xi S 904 75 ≠ 0)) ∧ (0 ≤ fW S ∧ fW S ≤ 5100 ∧ 0 ≤ nW S ∧ nW S ≤ 5100) ∧ (PLL S (Xi S 904 71) (Xi S 904 72).toNat)
def QX_mo_asked_15c (S S1 : sS) (first : Int) : Prop := (∃ P : sS, FR lA S P ∧ (Xi P 904 106 = 0 ∧ Xi P 904 108 = 0) ∧ RAX P S1) ∧ FR md_mo_asked__15c S S1 ∧ FR md_mo_asked__15cf S S1
theorem a_mo_asked_15c {S : sS} (hH : RI S) (first : Int) (hf : 0 ≤ first ∧ first ≤ 5001) (hp : PX_mo_asked_15c S first) (d : Nat) : Mp lay0 (d + 13) m_mo_asked [.ref 904, iv first] S (fun r S1 => RI S1 ∧ FR md_mo_asked__a S S1 ∧ (r = none ∧ QX_mo_asked_15c S S1 first)) := by
  refine Mp_w (Mp_and (t_mo_asked__15c hH  first hf (hp.1) (hp.2.1) (hp.2.2.1) (hp.2.2.2.1) (hp.2.2.2.2.1) (hp.2.2.2.2.2.1) (hp.2.2.2.2.2.2.1) (hp.2.2.2.2.2.2.2.1) (hp.2.2.2.2.2.2.2.2.1) (hp.2.2.2.2.2.2.2.2.2.1) (hp.2.2.2.2.2.2.2.2.2.2.1) (hp.2.2.2.2.2.2.2.2.2.2.2.1) (hp.2.2.2.2.2.2.2.2.2.2.2.2.1) (hp.2.2.2.2.2.2.2.2.2.2.2.2.2.1) (hp.2.2.2.2.2.2.2.2.2.2.2.2.2.2) d) (t_mo_asked__15cf hH  first hf (hp.1) (hp.2.1) (hp.2.2.1) (hp.2.2.2.1) (hp.2.2.2.2.1) (hp.2.2.2.2.2.1) (hp.2.2.2.2.2.2.1) (hp.2.2.2.2.2.2.2.1) (hp.2.2.2.2.2.2.2.2.1) (hp.2.2.2.2.2.2.2.2.2.1) (hp.2.2.2.2.2.2.2.2.2.2.1) (hp.2.2.2.2.2.2.2.2.2.2.2.1) (hp.2.2.2.2.2.2.2.2.2.2.2.2.1) (hp.2.2.2.2.2.2.2.2.2.2.2.2.2.1) (hp.2.2.2.2.2.2.2.2.2.2.2.2.2.2) d)) (fun r S1 h => ?_)
  obtain ⟨⟨r0, f0, e0, p0_0⟩, ⟨r1, f1, e1⟩⟩ := h
  exact ⟨r0, f0.up (rfl : sub md_mo_asked__15c md_mo_asked__a = true), e0, p0_0, f0, f1⟩
def PX_mo_asked_16 (S : sS) (first : Int) : Prop := (LSP S) ∧ (0 ≤ Xi S 904 15) ∧ (RBD S) ∧ (Xi S 904 76 = 0) ∧ (0 ≤ Xi S 904 78 ∧ Xi S 904 78 ≤ Xi S 904 69 ∧ Xi S 904 69 ≤ 2600) ∧ (0 ≤ Xi S 904 30 ∧ Xi S 904 30 ≤ 64) ∧ (0 ≤ Xi S 904 71 ∧ Xi S 904 71 ≤ 2600) ∧ (Xi S 904 70 = 16)
def QX_mo_asked_16 (S S1 : sS) (first : Int) : Prop := (∃ P : sS, FR lA S P ∧ (Xi P 904 106 = 0 ∧ Xi P 904 108 = 0) ∧ RAW md_mo_askFifteen__2 P S1) ∧ FR md_mo_asked__16 S S1 ∧ FR md_mo_asked__16f S S1
theorem a_mo_asked_16 {S : sS} (hH : RI S) (first : Int) (hf : 0 ≤ first ∧ first ≤ 5001) (hp : PX_mo_asked_16 S first) (d : Nat) : Mp lay0 (d + 13) m_mo_asked [.ref 904, iv first] S (fun r S1 => RI S1 ∧ FR md_mo_asked__a S S1 ∧ (r = none ∧ QX_mo_asked_16 S S1 first)) := by
  refine Mp_w (Mp_and (t_mo_asked__16 hH  first hf (hp.1) (hp.2.1) (hp.2.2.1) (hp.2.2.2.1) (hp.2.2.2.2.1) (hp.2.2.2.2.2.1) (hp.2.2.2.2.2.2.1) (hp.2.2.2.2.2.2.2) d) (t_mo_asked__16f hH  first hf (hp.1) (hp.2.1) (hp.2.2.1) (hp.2.2.2.1) (hp.2.2.2.2.1) (hp.2.2.2.2.2.1) (hp.2.2.2.2.2.2.1) (hp.2.2.2.2.2.2.2) d)) (fun r S1 h => ?_)
  obtain ⟨⟨r0, f0, e0, p0_0⟩, ⟨r1, f1, e1⟩⟩ := h
  exact ⟨r0, f0.up (rfl : sub md_mo_asked__16 md_mo_asked__a = true), e0, p0_0, f0, f1⟩
def PX_mo_asked_17 (S : sS) (first : Int) : Prop := (LSP S) ∧ (0 ≤ Xi S 904 15) ∧ (RBD S) ∧ (Xi S 904 70 = 17) ∧ (pR S 0 < pR S 1 ∧ pR S 1 < pR S 2) ∧ (0 ≤ Xi S 904 32 ∧ Xi S 904 32 ≤ 12)
def QX_mo_asked_17 (S S1 : sS) (first : Int) : Prop := (RHAS S (NT3 S1)) ∧ FR md_mo_asked__17 S S1 ∧ FR md_mo_asked__17f S S1
theorem a_mo_asked_17 {S : sS} (hH : RI S) (first : Int) (hf : 0 ≤ first ∧ first ≤ 5001) (hp : PX_mo_asked_17 S first) (d : Nat) : Mp lay0 (d + 13) m_mo_asked [.ref 904, iv first] S (fun r S1 => RI S1 ∧ FR md_mo_asked__a S S1 ∧ (r = none ∧ QX_mo_asked_17 S S1 first)) := by
  refine Mp_w (Mp_and (t_mo_asked__17 hH  first hf (hp.1) (hp.2.1) (hp.2.2.1) (hp.2.2.2.1) (hp.2.2.2.2.1) (hp.2.2.2.2.2) d) (t_mo_asked__17f hH  first hf (hp.1) (hp.2.1) (hp.2.2.1) (hp.2.2.2.1) (hp.2.2.2.2.1) (hp.2.2.2.2.2) d)) (fun r S1 h => ?_)
  obtain ⟨⟨r0, f0, e0, p0_0⟩, ⟨r1, f1, e1⟩⟩ := h
  exact ⟨r0, f0.up (rfl : sub md_mo_asked__17 md_mo_asked__a = true), e0, p0_0, f0, f1⟩
def PX_mo_asked_18 (S : sS) (first : Int) : Prop := (LSP S) ∧ (0 ≤ Xi S 904 15) ∧ (RBD S) ∧ (Xi S 904 70 = 18) ∧ (pR S 0 < pR S 1 ∧ pR S 1 < pR S 2) ∧ (0 ≤ Xi S 904 23 ∧ Xi S 904 23 ≤ 24)
def QX_mo_asked_18 (S S1 : sS) (first : Int) : Prop := (RCAN S (NT3 S1)) ∧ FR md_mo_asked__18 S S1 ∧ FR md_mo_asked__18f S S1
theorem a_mo_asked_18 {S : sS} (hH : RI S) (first : Int) (hf : 0 ≤ first ∧ first ≤ 5001) (hp : PX_mo_asked_18 S first) (d : Nat) : Mp lay0 (d + 13) m_mo_asked [.ref 904, iv first] S (fun r S1 => RI S1 ∧ FR md_mo_asked__a S S1 ∧ (r = none ∧ QX_mo_asked_18 S S1 first)) := by
  refine Mp_w (Mp_and (t_mo_asked__18 hH  first hf (hp.1) (hp.2.1) (hp.2.2.1) (hp.2.2.2.1) (hp.2.2.2.2.1) (hp.2.2.2.2.2) d) (t_mo_asked__18f hH  first hf (hp.1) (hp.2.1) (hp.2.2.1) (hp.2.2.2.1) (hp.2.2.2.2.1) (hp.2.2.2.2.2) d)) (fun r S1 h => ?_)
  obtain ⟨⟨r0, f0, e0, p0_0⟩, ⟨r1, f1, e1⟩⟩ := h
  exact ⟨r0, f0.up (rfl : sub md_mo_asked__18 md_mo_asked__a = true), e0, p0_0, f0, f1⟩
def PX_mo_asked_19 (S : sS) (first : Int) : Prop := (LSP S) ∧ (0 ≤ Xi S 904 15) ∧ (RBD S) ∧ (Xi S 904 70 = 19) ∧ (pR S 0 < pR S 1 ∧ pR S 1 < pR S 2) ∧ (0 ≤ Xi S 904 41 ∧ Xi S 904 41 ≤ 6)
def QX_mo_asked_19 (S S1 : sS) (first : Int) : Prop := (RREL S (NT3 S1)) ∧ FR md_mo_asked__19 S S1 ∧ FR md_mo_asked__19f S S1
theorem a_mo_asked_19 {S : sS} (hH : RI S) (first : Int) (hf : 0 ≤ first ∧ first ≤ 5001) (hp : PX_mo_asked_19 S first) (d : Nat) : Mp lay0 (d + 13) m_mo_asked [.ref 904, iv first] S (fun r S1 => RI S1 ∧ FR md_mo_asked__a S S1 ∧ (r = none ∧ QX_mo_asked_19 S S1 first)) := by
  refine Mp_w (Mp_and (t_mo_asked__19 hH  first hf (hp.1) (hp.2.1) (hp.2.2.1) (hp.2.2.2.1) (hp.2.2.2.2.1) (hp.2.2.2.2.2) d) (t_mo_asked__19f hH  first hf (hp.1) (hp.2.1) (hp.2.2.1) (hp.2.2.2.1) (hp.2.2.2.2.1) (hp.2.2.2.2.2) d)) (fun r S1 h => ?_)
  obtain ⟨⟨r0, f0, e0, p0_0⟩, ⟨r1, f1, e1⟩⟩ := h
  exact ⟨r0, f0.up (rfl : sub md_mo_asked__19 md_mo_asked__a = true), e0, p0_0, f0, f1⟩
def PX_mo_asked_20 (S : sS) (dd : Nat) (first : Int) : Prop := (LSP S) ∧ (0 ≤ Xi S 904 15) ∧ (ABV S) ∧ (Hid (∀ j : Nat, -1 ≤ Xi S 918 j ∧ Xi S 918 j ≤ 15)) ∧ (first ≤ (dd : Int) ∧ (dd : Int) ≤ 5001) ∧ (Xi S 907 dd = 46) ∧ (Hid (∀ j : Nat, first ≤ (j : Int) → j < dd → Xi S 907 j ≠ 46)) ∧ (Xi S 904 70 = 20)
def QX_mo_asked_20 (S S1 : sS) (dd : Nat) (first : Int) : Prop := (∃ P : sS, FR lA S P ∧ (Xi P 904 106 = 0 ∧ Xi P 904 108 = 0) ∧ RSY P S1 first dd) ∧ FR md_mo_asked__20 S S1 ∧ FR md_mo_asked__20f S S1
theorem a_mo_asked_20 {S : sS} (hH : RI S) (dd : Nat) (first : Int) (hf : 0 ≤ first ∧ first ≤ 5001) (hp : PX_mo_asked_20 S dd first) (d : Nat) : Mp lay0 (d + 13) m_mo_asked [.ref 904, iv first] S (fun r S1 => RI S1 ∧ FR md_mo_asked__a S S1 ∧ (r = none ∧ QX_mo_asked_20 S S1 dd first)) := by
  refine Mp_w (Mp_and (t_mo_asked__20 hH dd first hf (hp.1) (hp.2.1) (hp.2.2.1) (hp.2.2.2.1) (hp.2.2.2.2.1) (hp.2.2.2.2.2.1) (hp.2.2.2.2.2.2.1) (hp.2.2.2.2.2.2.2) d) (t_mo_asked__20f hH dd first hf (hp.1) (hp.2.1) (hp.2.2.1) (hp.2.2.2.1) (hp.2.2.2.2.1) (hp.2.2.2.2.2.1) (hp.2.2.2.2.2.2.1) (hp.2.2.2.2.2.2.2) d)) (fun r S1 h => ?_)
  obtain ⟨⟨r0, f0, e0, p0_0⟩, ⟨r1, f1, e1⟩⟩ := h
  exact ⟨r0, f0.up (rfl : sub md_mo_asked__20 md_mo_asked__a = true), e0, p0_0, f0, f1⟩
def AKP (S : sS) (dd : Nat) (first : Int) : Prop := (0 ≤ Xi S 904 70 ∧ Xi S 904 70 ≤ 20) ∧ (Xi S 904 70 = 0 → PX_mo_asked_0 S first) ∧ (Xi S 904 70 = 1 → PX_mo_asked_1 S first) ∧ (Xi S 904 70 = 2 → PX_mo_asked_2 S first) ∧ (3 ≤ Xi S 904 70 ∧ Xi S 904 70 ≤ 6 → PX_mo_asked_3 S first) ∧ (Xi S 904 70 = 7 → PX_mo_asked_7 S first) ∧ (Xi S 904 70 = 8 → PX_mo_asked_8 S first) ∧ (Xi S 904 70 = 9 → PX_mo_asked_9 S first) ∧ (Xi S 904 70 = 10 → PX_mo_asked_10 S first) ∧ (Xi S 904 70 = 11 → PX_mo_asked_11 S first) ∧ (Xi S 904 70 = 12 → PX_mo_asked_12 S first) ∧ (Xi S 904 70 = 13 → PX_mo_asked_13 S first) ∧ (Xi S 904 70 = 14 → PX_mo_asked_14 S first) ∧ (Xi S 904 70 = 15 ∧ Xi S 904 76 ≠ 0 → PX_mo_asked_15a S first) ∧ (Xi S 904 70 = 15 ∧ Xi S 904 76 = 0 ∧ (Xi S 904 72 = 1 ∧ 1 < r2R S (Xi S 904 71) 2 3 ∧ Xi S 904 75 = 0) → PX_mo_asked_15b S first) ∧ (Xi S 904 70 = 15 ∧ Xi S 904 76 = 0 ∧ ¬ (Xi S 904 72 = 1 ∧ 1 < r2R S (Xi S 904 71) 2 3 ∧ Xi S 904 75 = 0) → PX_mo_asked_15c S first) ∧ (Xi S 904 70 = 16 → PX_mo_asked_16 S first) ∧ (Xi S 904 70 = 17 → PX_mo_asked_17 S first) ∧ (Xi S 904 70 = 18 → PX_mo_asked_18 S first) ∧ (Xi S 904 70 = 19 → PX_mo_asked_19 S first) ∧ (Xi S 904 70 = 20 → PX_mo_asked_20 S dd first)
def AKQ (S S1 : sS) (dd : Nat) (first : Int) : Prop := (Xi S 904 70 = 0 → QX_mo_asked_0 S S1 first) ∧ (Xi S 904 70 = 1 → QX_mo_asked_1 S S1 first) ∧ (Xi S 904 70 = 2 → QX_mo_asked_2 S S1 first) ∧ (3 ≤ Xi S 904 70 ∧ Xi S 904 70 ≤ 6 → QX_mo_asked_3 S S1 first) ∧ (Xi S 904 70 = 7 → QX_mo_asked_7 S S1 first) ∧ (Xi S 904 70 = 8 → QX_mo_asked_8 S S1 first) ∧ (Xi S 904 70 = 9 → QX_mo_asked_9 S S1 first) ∧ (Xi S 904 70 = 10 → QX_mo_asked_10 S S1 first) ∧ (Xi S 904 70 = 11 → QX_mo_asked_11 S S1 first) ∧ (Xi S 904 70 = 12 → QX_mo_asked_12 S S1 first) ∧ (Xi S 904 70 = 13 → QX_mo_asked_13 S S1 first) ∧ (Xi S 904 70 = 14 → QX_mo_asked_14 S S1 first) ∧ (Xi S 904 70 = 15 ∧ Xi S 904 76 ≠ 0 → QX_mo_asked_15a S S1 first) ∧ (Xi S 904 70 = 15 ∧ Xi S 904 76 = 0 ∧ (Xi S 904 72 = 1 ∧ 1 < r2R S (Xi S 904 71) 2 3 ∧ Xi S 904 75 = 0) → QX_mo_asked_15b S S1 first) ∧ (Xi S 904 70 = 15 ∧ Xi S 904 76 = 0 ∧ ¬ (Xi S 904 72 = 1 ∧ 1 < r2R S (Xi S 904 71) 2 3 ∧ Xi S 904 75 = 0) → QX_mo_asked_15c S S1 first) ∧ (Xi S 904 70 = 16 → QX_mo_asked_16 S S1 first) ∧ (Xi S 904 70 = 17 → QX_mo_asked_17 S S1 first) ∧ (Xi S 904 70 = 18 → QX_mo_asked_18 S S1 first) ∧ (Xi S 904 70 = 19 → QX_mo_asked_19 S S1 first) ∧ (Xi S 904 70 = 20 → QX_mo_asked_20 S S1 dd first)
abbrev Q_mo_asked__a (S : sS) (dd : Nat) (first : Int) : pst := fun r S1 => RI S1 ∧ FR md_mo_asked__a S S1 ∧ (r = none ∧ (AKQ S S1 dd first))
theorem t_mo_asked__a {S : sS} (hH : RI S) (dd : Nat) (first : Int) (hfirst : 0 ≤ first ∧ first ≤ 5001) (hp : AKP S dd first) (d : Nat) : Mp lay0 (d + 13) m_mo_asked [.ref 904, iv first] S (Q_mo_asked__a S dd first) := by
  have hr := hp.1
  have hc : (Xi S 904 70 = 0) ∨ (Xi S 904 70 = 1) ∨ (Xi S 904 70 = 2) ∨ (3 ≤ Xi S 904 70 ∧ Xi S 904 70 ≤ 6) ∨ (Xi S 904 70 = 7) ∨ (Xi S 904 70 = 8) ∨ (Xi S 904 70 = 9) ∨ (Xi S 904 70 = 10) ∨ (Xi S 904 70 = 11) ∨ (Xi S 904 70 = 12) ∨ (Xi S 904 70 = 13) ∨ (Xi S 904 70 = 14) ∨ (Xi S 904 70 = 15 ∧ Xi S 904 76 ≠ 0) ∨ (Xi S 904 70 = 15 ∧ Xi S 904 76 = 0 ∧ (Xi S 904 72 = 1 ∧ 1 < r2R S (Xi S 904 71) 2 3 ∧ Xi S 904 75 = 0)) ∨ (Xi S 904 70 = 15 ∧ Xi S 904 76 = 0 ∧ ¬ (Xi S 904 72 = 1 ∧ 1 < r2R S (Xi S 904 71) 2 3 ∧ Xi S 904 75 = 0)) ∨ (Xi S 904 70 = 16) ∨ (Xi S 904 70 = 17) ∨ (Xi S 904 70 = 18) ∨ (Xi S 904 70 = 19) ∨ (Xi S 904 70 = 20) := by
    clear hp
    by_cases u : Xi S 904 76 = 0
    · by_cases v : Xi S 904 72 = 1 ∧ 1 < r2R S (Xi S 904 71) 2 3 ∧ Xi S 904 75 = 0
      · omega
      · omega
    · omega
  rcases hc with c | c | c | c | c | c | c | c | c | c | c | c | c | c | c | c | c | c | c | c
  · have hq := hp.2.1 c
    clear hp
    refine Mp_w (a_mo_asked_0 hH first hfirst hq d) (fun r S1 h => ?_)
    clear hq
    exact ⟨h.1, h.2.1, h.2.2.1, fun _ => h.2.2.2, fun q => absurd q (by omega), fun q => absurd q (by omega), fun q => absurd q (by omega), fun q => absurd q (by omega), fun q => absurd q (by omega), fun q => absurd q (by omega), fun q => absurd q (by omega), fun q => absurd q (by omega), fun q => absurd q (by omega), fun q => absurd q (by omega), fun q => absurd q (by omega), fun q => absurd q (by omega), fun q => absurd q (by omega), fun q => absurd q (by omega), fun q => absurd q (by omega), fun q => absurd q (by omega), fun q => absurd q (by omega), fun q => absurd q (by omega), fun q => absurd q (by omega)⟩
  · have hq := hp.2.2.1 c
    clear hp
    refine Mp_w (a_mo_asked_1 hH first hfirst hq d) (fun r S1 h => ?_)
    clear hq
    exact ⟨h.1, h.2.1, h.2.2.1, fun q => absurd q (by omega), fun _ => h.2.2.2, fun q => absurd q (by omega), fun q => absurd q (by omega), fun q => absurd q (by omega), fun q => absurd q (by omega), fun q => absurd q (by omega), fun q => absurd q (by omega), fun q => absurd q (by omega), fun q => absurd q (by omega), fun q => absurd q (by omega), fun q => absurd q (by omega), fun q => absurd q (by omega), fun q => absurd q (by omega), fun q => absurd q (by omega), fun q => absurd q (by omega), fun q => absurd q (by omega), fun q => absurd q (by omega), fun q => absurd q (by omega), fun q => absurd q (by omega)⟩
  · have hq := hp.2.2.2.1 c
    clear hp
    refine Mp_w (a_mo_asked_2 hH first hfirst hq d) (fun r S1 h => ?_)
    clear hq
    exact ⟨h.1, h.2.1, h.2.2.1, fun q => absurd q (by omega), fun q => absurd q (by omega), fun _ => h.2.2.2, fun q => absurd q (by omega), fun q => absurd q (by omega), fun q => absurd q (by omega), fun q => absurd q (by omega), fun q => absurd q (by omega), fun q => absurd q (by omega), fun q => absurd q (by omega), fun q => absurd q (by omega), fun q => absurd q (by omega), fun q => absurd q (by omega), fun q => absurd q (by omega), fun q => absurd q (by omega), fun q => absurd q (by omega), fun q => absurd q (by omega), fun q => absurd q (by omega), fun q => absurd q (by omega), fun q => absurd q (by omega)⟩
  · have hq := hp.2.2.2.2.1 c
    clear hp
    refine Mp_w (a_mo_asked_3 hH first hfirst hq d) (fun r S1 h => ?_)
    clear hq
    exact ⟨h.1, h.2.1, h.2.2.1, fun q => absurd q (by omega), fun q => absurd q (by omega), fun q => absurd q (by omega), fun _ => h.2.2.2, fun q => absurd q (by omega), fun q => absurd q (by omega), fun q => absurd q (by omega), fun q => absurd q (by omega), fun q => absurd q (by omega), fun q => absurd q (by omega), fun q => absurd q (by omega), fun q => absurd q (by omega), fun q => absurd q (by omega), fun q => absurd q (by omega), fun q => absurd q (by omega), fun q => absurd q (by omega), fun q => absurd q (by omega), fun q => absurd q (by omega), fun q => absurd q (by omega), fun q => absurd q (by omega)⟩
  · have hq := hp.2.2.2.2.2.1 c
    clear hp
    refine Mp_w (a_mo_asked_7 hH first hfirst hq d) (fun r S1 h => ?_)
    clear hq
    exact ⟨h.1, h.2.1, h.2.2.1, fun q => absurd q (by omega), fun q => absurd q (by omega), fun q => absurd q (by omega), fun q => absurd q (by omega), fun _ => h.2.2.2, fun q => absurd q (by omega), fun q => absurd q (by omega), fun q => absurd q (by omega), fun q => absurd q (by omega), fun q => absurd q (by omega), fun q => absurd q (by omega), fun q => absurd q (by omega), fun q => absurd q (by omega), fun q => absurd q (by omega), fun q => absurd q (by omega), fun q => absurd q (by omega), fun q => absurd q (by omega), fun q => absurd q (by omega), fun q => absurd q (by omega), fun q => absurd q (by omega)⟩
  · have hq := hp.2.2.2.2.2.2.1 c
    clear hp
    refine Mp_w (a_mo_asked_8 hH first hfirst hq d) (fun r S1 h => ?_)
    clear hq
    exact ⟨h.1, h.2.1, h.2.2.1, fun q => absurd q (by omega), fun q => absurd q (by omega), fun q => absurd q (by omega), fun q => absurd q (by omega), fun q => absurd q (by omega), fun _ => h.2.2.2, fun q => absurd q (by omega), fun q => absurd q (by omega), fun q => absurd q (by omega), fun q => absurd q (by omega), fun q => absurd q (by omega), fun q => absurd q (by omega), fun q => absurd q (by omega), fun q => absurd q (by omega), fun q => absurd q (by omega), fun q => absurd q (by omega), fun q => absurd q (by omega), fun q => absurd q (by omega), fun q => absurd q (by omega), fun q => absurd q (by omega)⟩
  · have hq := hp.2.2.2.2.2.2.2.1 c
    clear hp
    refine Mp_w (a_mo_asked_9 hH first hfirst hq d) (fun r S1 h => ?_)
    clear hq
    exact ⟨h.1, h.2.1, h.2.2.1, fun q => absurd q (by omega), fun q => absurd q (by omega), fun q => absurd q (by omega), fun q => absurd q (by omega), fun q => absurd q (by omega), fun q => absurd q (by omega), fun _ => h.2.2.2, fun q => absurd q (by omega), fun q => absurd q (by omega), fun q => absurd q (by omega), fun q => absurd q (by omega), fun q => absurd q (by omega), fun q => absurd q (by omega), fun q => absurd q (by omega), fun q => absurd q (by omega), fun q => absurd q (by omega), fun q => absurd q (by omega), fun q => absurd q (by omega), fun q => absurd q (by omega), fun q => absurd q (by omega)⟩
  · have hq := hp.2.2.2.2.2.2.2.2.1 c
    clear hp
    refine Mp_w (a_mo_asked_10 hH first hfirst hq d) (fun r S1 h => ?_)
    clear hq
    exact ⟨h.1, h.2.1, h.2.2.1, fun q => absurd q (by omega), fun q => absurd q (by omega), fun q => absurd q (by omega), fun q => absurd q (by omega), fun q => absurd q (by omega), fun q => absurd q (by omega), fun q => absurd q (by omega), fun _ => h.2.2.2, fun q => absurd q (by omega), fun q => absurd q (by omega), fun q => absurd q (by omega), fun q => absurd q (by omega), fun q => absurd q (by omega), fun q => absurd q (by omega), fun q => absurd q (by omega), fun q => absurd q (by omega), fun q => absurd q (by omega), fun q => absurd q (by omega), fun q => absurd q (by omega), fun q => absurd q (by omega)⟩
  · have hq := hp.2.2.2.2.2.2.2.2.2.1 c
    clear hp
    refine Mp_w (a_mo_asked_11 hH first hfirst hq d) (fun r S1 h => ?_)
    clear hq
    exact ⟨h.1, h.2.1, h.2.2.1, fun q => absurd q (by omega), fun q => absurd q (by omega), fun q => absurd q (by omega), fun q => absurd q (by omega), fun q => absurd q (by omega), fun q => absurd q (by omega), fun q => absurd q (by omega), fun q => absurd q (by omega), fun _ => h.2.2.2, fun q => absurd q (by omega), fun q => absurd q (by omega), fun q => absurd q (by omega), fun q => absurd q (by omega), fun q => absurd q (by omega), fun q => absurd q (by omega), fun q => absurd q (by omega), fun q => absurd q (by omega), fun q => absurd q (by omega), fun q => absurd q (by omega), fun q => absurd q (by omega)⟩
  · have hq := hp.2.2.2.2.2.2.2.2.2.2.1 c
    clear hp
    refine Mp_w (a_mo_asked_12 hH first hfirst hq d) (fun r S1 h => ?_)
    clear hq
    exact ⟨h.1, h.2.1, h.2.2.1, fun q => absurd q (by omega), fun q => absurd q (by omega), fun q => absurd q (by omega), fun q => absurd q (by omega), fun q => absurd q (by omega), fun q => absurd q (by omega), fun q => absurd q (by omega), fun q => absurd q (by omega), fun q => absurd q (by omega), fun _ => h.2.2.2, fun q => absurd q (by omega), fun q => absurd q (by omega), fun q => absurd q (by omega), fun q => absurd q (by omega), fun q => absurd q (by omega), fun q => absurd q (by omega), fun q => absurd q (by omega), fun q => absurd q (by omega), fun q => absurd q (by omega), fun q => absurd q (by omega)⟩
  · have hq := hp.2.2.2.2.2.2.2.2.2.2.2.1 c
    clear hp
    refine Mp_w (a_mo_asked_13 hH first hfirst hq d) (fun r S1 h => ?_)
    clear hq
    exact ⟨h.1, h.2.1, h.2.2.1, fun q => absurd q (by omega), fun q => absurd q (by omega), fun q => absurd q (by omega), fun q => absurd q (by omega), fun q => absurd q (by omega), fun q => absurd q (by omega), fun q => absurd q (by omega), fun q => absurd q (by omega), fun q => absurd q (by omega), fun q => absurd q (by omega), fun _ => h.2.2.2, fun q => absurd q (by omega), fun q => absurd q (by omega), fun q => absurd q (by omega), fun q => absurd q (by omega), fun q => absurd q (by omega), fun q => absurd q (by omega), fun q => absurd q (by omega), fun q => absurd q (by omega), fun q => absurd q (by omega)⟩
  · have hq := hp.2.2.2.2.2.2.2.2.2.2.2.2.1 c
    clear hp
    refine Mp_w (a_mo_asked_14 hH first hfirst hq d) (fun r S1 h => ?_)
    clear hq
    exact ⟨h.1, h.2.1, h.2.2.1, fun q => absurd q (by omega), fun q => absurd q (by omega), fun q => absurd q (by omega), fun q => absurd q (by omega), fun q => absurd q (by omega), fun q => absurd q (by omega), fun q => absurd q (by omega), fun q => absurd q (by omega), fun q => absurd q (by omega), fun q => absurd q (by omega), fun q => absurd q (by omega), fun _ => h.2.2.2, fun q => absurd q (by omega), fun q => absurd q (by omega), fun q => absurd q (by omega), fun q => absurd q (by omega), fun q => absurd q (by omega), fun q => absurd q (by omega), fun q => absurd q (by omega), fun q => absurd q (by omega)⟩
  · have hq := hp.2.2.2.2.2.2.2.2.2.2.2.2.2.1 c
    clear hp
    refine Mp_w (a_mo_asked_15a hH first hfirst hq d) (fun r S1 h => ?_)
    clear hq
    exact ⟨h.1, h.2.1, h.2.2.1, fun q => absurd q (by omega), fun q => absurd q (by omega), fun q => absurd q (by omega), fun q => absurd q (by omega), fun q => absurd q (by omega), fun q => absurd q (by omega), fun q => absurd q (by omega), fun q => absurd q (by omega), fun q => absurd q (by omega), fun q => absurd q (by omega), fun q => absurd q (by omega), fun q => absurd q (by omega), fun _ => h.2.2.2, fun q => absurd q (by omega), fun q => absurd q (by omega), fun q => absurd q (by omega), fun q => absurd q (by omega), fun q => absurd q (by omega), fun q => absurd q (by omega), fun q => absurd q (by omega)⟩
  · have hq := hp.2.2.2.2.2.2.2.2.2.2.2.2.2.2.1 c
    clear hp
    refine Mp_w (a_mo_asked_15b hH first hfirst hq d) (fun r S1 h => ?_)
    clear hq
    exact ⟨h.1, h.2.1, h.2.2.1, fun q => absurd q (by omega), fun q => absurd q (by omega), fun q => absurd q (by omega), fun q => absurd q (by omega), fun q => absurd q (by omega), fun q => absurd q (by omega), fun q => absurd q (by omega), fun q => absurd q (by omega), fun q => absurd q (by omega), fun q => absurd q (by omega), fun q => absurd q (by omega), fun q => absurd q (by omega), fun q => absurd q (by omega), fun _ => h.2.2.2, fun q => absurd q (by omega), fun q => absurd q (by omega), fun q => absurd q (by omega), fun q => absurd q (by omega), fun q => absurd q (by omega), fun q => absurd q (by omega)⟩
  · have hq := hp.2.2.2.2.2.2.2.2.2.2.2.2.2.2.2.1 c
    clear hp
    refine Mp_w (a_mo_asked_15c hH first hfirst hq d) (fun r S1 h => ?_)
    clear hq
    exact ⟨h.1, h.2.1, h.2.2.1, fun q => absurd q (by omega), fun q => absurd q (by omega), fun q => absurd q (by omega), fun q => absurd q (by omega), fun q => absurd q (by omega), fun q => absurd q (by omega), fun q => absurd q (by omega), fun q => absurd q (by omega), fun q => absurd q (by omega), fun q => absurd q (by omega), fun q => absurd q (by omega), fun q => absurd q (by omega), fun q => absurd q (by omega), fun q => absurd q (by omega), fun _ => h.2.2.2, fun q => absurd q (by omega), fun q => absurd q (by omega), fun q => absurd q (by omega), fun q => absurd q (by omega), fun q => absurd q (by omega)⟩
  · have hq := hp.2.2.2.2.2.2.2.2.2.2.2.2.2.2.2.2.1 c
    clear hp
    refine Mp_w (a_mo_asked_16 hH first hfirst hq d) (fun r S1 h => ?_)
    clear hq
    exact ⟨h.1, h.2.1, h.2.2.1, fun q => absurd q (by omega), fun q => absurd q (by omega), fun q => absurd q (by omega), fun q => absurd q (by omega), fun q => absurd q (by omega), fun q => absurd q (by omega), fun q => absurd q (by omega), fun q => absurd q (by omega), fun q => absurd q (by omega), fun q => absurd q (by omega), fun q => absurd q (by omega), fun q => absurd q (by omega), fun q => absurd q (by omega), fun q => absurd q (by omega), fun q => absurd q (by omega), fun _ => h.2.2.2, fun q => absurd q (by omega), fun q => absurd q (by omega), fun q => absurd q (by omega), fun q => absurd q (by omega)⟩
  · have hq := hp.2.2.2.2.2.2.2.2.2.2.2.2.2.2.2.2.2.1 c
    clear hp
    refine Mp_w (a_mo_asked_17 hH first hfirst hq d) (fun r S1 h => ?_)
    clear hq
    exact ⟨h.1, h.2.1, h.2.2.1, fun q => absurd q (by omega), fun q => absurd q (by omega), fun q => absurd q (by omega), fun q => absurd q (by omega), fun q => absurd q (by omega), fun q => absurd q (by omega), fun q => absurd q (by omega), fun q => absurd q (by omega), fun q => absurd q (by omega), fun q => absurd q (by omega), fun q => absurd q (by omega), fun q => absurd q (by omega), fun q => absurd q (by omega), fun q => absurd q (by omega), fun q => absurd q (by omega), fun q => absurd q (by omega), fun _ => h.2.2.2, fun q => absurd q (by omega), fun q => absurd q (by omega), fun q => absurd q (by omega)⟩
  · have hq := hp.2.2.2.2.2.2.2.2.2.2.2.2.2.2.2.2.2.2.1 c
    clear hp
    refine Mp_w (a_mo_asked_18 hH first hfirst hq d) (fun r S1 h => ?_)
    clear hq
    exact ⟨h.1, h.2.1, h.2.2.1, fun q => absurd q (by omega), fun q => absurd q (by omega), fun q => absurd q (by omega), fun q => absurd q (by omega), fun q => absurd q (by omega), fun q => absurd q (by omega), fun q => absurd q (by omega), fun q => absurd q (by omega), fun q => absurd q (by omega), fun q => absurd q (by omega), fun q => absurd q (by omega), fun q => absurd q (by omega), fun q => absurd q (by omega), fun q => absurd q (by omega), fun q => absurd q (by omega), fun q => absurd q (by omega), fun q => absurd q (by omega), fun _ => h.2.2.2, fun q => absurd q (by omega), fun q => absurd q (by omega)⟩
  · have hq := hp.2.2.2.2.2.2.2.2.2.2.2.2.2.2.2.2.2.2.2.1 c
    clear hp
    refine Mp_w (a_mo_asked_19 hH first hfirst hq d) (fun r S1 h => ?_)
    clear hq
    exact ⟨h.1, h.2.1, h.2.2.1, fun q => absurd q (by omega), fun q => absurd q (by omega), fun q => absurd q (by omega), fun q => absurd q (by omega), fun q => absurd q (by omega), fun q => absurd q (by omega), fun q => absurd q (by omega), fun q => absurd q (by omega), fun q => absurd q (by omega), fun q => absurd q (by omega), fun q => absurd q (by omega), fun q => absurd q (by omega), fun q => absurd q (by omega), fun q => absurd q (by omega), fun q => absurd q (by omega), fun q => absurd q (by omega), fun q => absurd q (by omega), fun q => absurd q (by omega), fun _ => h.2.2.2, fun q => absurd q (by omega)⟩
  · have hq := hp.2.2.2.2.2.2.2.2.2.2.2.2.2.2.2.2.2.2.2.2 c
    clear hp
    refine Mp_w (a_mo_asked_20 hH dd first hfirst hq d) (fun r S1 h => ?_)
    clear hq
    exact ⟨h.1, h.2.1, h.2.2.1, fun q => absurd q (by omega), fun q => absurd q (by omega), fun q => absurd q (by omega), fun q => absurd q (by omega), fun q => absurd q (by omega), fun q => absurd q (by omega), fun q => absurd q (by omega), fun q => absurd q (by omega), fun q => absurd q (by omega), fun q => absurd q (by omega), fun q => absurd q (by omega), fun q => absurd q (by omega), fun q => absurd q (by omega), fun q => absurd q (by omega), fun q => absurd q (by omega), fun q => absurd q (by omega), fun q => absurd q (by omega), fun q => absurd q (by omega), fun q => absurd q (by omega), fun _ => h.2.2.2⟩
def md_mo_does__a : List rec := [(904, 905, 15, 16), (904, 905, 16, 17), (904, 905, 18, 19), (904, 905, 19, 20), (904, 905, 23, 24), (904, 905, 30, 31), (904, 905, 32, 33), (904, 905, 41, 42), (904, 905, 47, 48), (904, 905, 49, 50), (904, 905, 51, 52), (904, 905, 55, 56), (904, 905, 60, 61), (904, 905, 64, 65), (904, 905, 73, 74), (904, 905, 105, 106), (904, 905, 106, 107), (904, 905, 113, 114), (904, 905, 117, 118), (912, 913, 0, 100000), (913, 914, 0, 100000), (914, 915, 0, 100000), (915, 916, 0, 100000), (916, 917, 0, 100000), (917, 918, 0, 100000), (918, 919, 0, 100000), (919, 920, 0, 100000), (920, 921, 0, 100000), (921, 922, 0, 100000), (922, 923, 0, 100000), (923, 924, 0, 100000), (924, 925, 0, 100000), (925, 926, 0, 100000), (926, 927, 0, 100000), (927, 928, 0, 100000), (928, 929, 0, 100000), (929, 930, 0, 100000), (930, 931, 0, 100000), (931, 932, 0, 100000), (932, 933, 0, 100000), (933, 934, 0, 100000), (934, 935, 0, 100000), (935, 936, 0, 100000), (936, 937, 0, 100000), (937, 938, 0, 100000), (938, 939, 0, 100000), (939, 940, 0, 100000), (940, 941, 0, 100000), (941, 942, 0, 100000), (942, 943, 0, 100000), (943, 944, 0, 100000), (944, 945, 0, 100000), (945, 946, 0, 100000), (946, 947, 0, 100000), (947, 948, 0, 100000), (948, 949, 0, 100000), (949, 950, 0, 100000)]
def PX_mo_does_0 (S : sS) (first : Int) : Prop := (Xi S 904 70 = 0) ∧ (Xi S 904 106 = 0) ∧ (0 ≤ Xi S 904 60 ∧ Xi S 904 60 ≤ 23) ∧ (-1 ≤ Xi S 908 (Xi S 904 81).toNat ∧ Xi S 908 (Xi S 904 81).toNat ≤ 100000)
def QX_mo_does_0 (S S1 : sS) (first : Int) : Prop := (RD0 S S1 first) ∧ FR md_mo_does__0 S S1 ∧ FR md_mo_does__0f S S1
theorem a_mo_does_0 {S : sS} (hH : RI S) (first : Int) (hf : 0 ≤ first ∧ first ≤ 5001) (hp : PX_mo_does_0 S first) (d : Nat) : Mp lay0 (d + 8) m_mo_does [.ref 904, iv first] S (fun r S1 => RI S1 ∧ FR md_mo_does__a S S1 ∧ (r = none ∧ QX_mo_does_0 S S1 first)) := by
  refine Mp_w (Mp_and (t_mo_does__0 hH  first hf (hp.1) (hp.2.1) (hp.2.2.1) (hp.2.2.2) d) (t_mo_does__0f hH  first hf (hp.1) (hp.2.1) (hp.2.2.1) (hp.2.2.2) d)) (fun r S1 h => ?_)
  obtain ⟨⟨r0, f0, e0, p0_0⟩, ⟨r1, f1, e1⟩⟩ := h
  exact ⟨r0, f0.up (rfl : sub md_mo_does__0 md_mo_does__a = true), e0, p0_0, f0, f1⟩
def PX_mo_does_1 (S : sS) (first : Int) : Prop := (LSP S) ∧ (0 ≤ Xi S 904 15) ∧ (RBD S) ∧ (0 ≤ Xi S 904 55 ∧ Xi S 904 55 ≤ 19) ∧ (Xi S 904 70 = 1)
def QX_mo_does_1 (S S1 : sS) (first : Int) : Prop := (RDCM S S1) ∧ FR md_mo_does__1 S S1 ∧ FR md_mo_does__1f S S1
theorem a_mo_does_1 {S : sS} (hH : RI S) (first : Int) (hf : 0 ≤ first ∧ first ≤ 5001) (hp : PX_mo_does_1 S first) (d : Nat) : Mp lay0 (d + 8) m_mo_does [.ref 904, iv first] S (fun r S1 => RI S1 ∧ FR md_mo_does__a S S1 ∧ (r = none ∧ QX_mo_does_1 S S1 first)) := by
  refine Mp_w (Mp_and (t_mo_does__1 hH  first hf (hp.1) (hp.2.1) (hp.2.2.1) (hp.2.2.2.1) (hp.2.2.2.2) d) (t_mo_does__1f hH  first hf (hp.1) (hp.2.1) (hp.2.2.1) (hp.2.2.2.1) (hp.2.2.2.2) d)) (fun r S1 h => ?_)
  obtain ⟨⟨r0, f0, e0, p0_0⟩, ⟨r1, f1, e1⟩⟩ := h
  exact ⟨r0, f0.up (rfl : sub md_mo_does__1 md_mo_does__a = true), e0, p0_0, f0, f1⟩
def PX_mo_does_2 (S : sS) (first : Int) : Prop := (LSP S) ∧ (0 ≤ Xi S 904 15) ∧ (RBD S) ∧ (0 ≤ Xi S 904 23 ∧ Xi S 904 23 ≤ 30) ∧ (0 ≤ Xi S 904 94 ∧ Xi S 904 94 ≤ 1700) ∧ (0 ≤ Xi S 904 117 ∧ Xi S 904 117 ≤ 2400) ∧ (Xi S 904 70 = 2)
def QX_mo_does_2 (S S1 : sS) (first : Int) : Prop := (RD2 md_mo_addAdjective__p S S1) ∧ FR md_mo_does__2 S S1 ∧ FR md_mo_does__2f S S1
theorem a_mo_does_2 {S : sS} (hH : RI S) (first : Int) (hf : 0 ≤ first ∧ first ≤ 5001) (hp : PX_mo_does_2 S first) (d : Nat) : Mp lay0 (d + 8) m_mo_does [.ref 904, iv first] S (fun r S1 => RI S1 ∧ FR md_mo_does__a S S1 ∧ (r = none ∧ QX_mo_does_2 S S1 first)) := by
  refine Mp_w (Mp_and (t_mo_does__2 hH  first hf (hp.1) (hp.2.1) (hp.2.2.1) (hp.2.2.2.1) (hp.2.2.2.2.1) (hp.2.2.2.2.2.1) (hp.2.2.2.2.2.2) d) (t_mo_does__2f hH  first hf (hp.1) (hp.2.1) (hp.2.2.1) (hp.2.2.2.1) (hp.2.2.2.2.1) (hp.2.2.2.2.2.1) (hp.2.2.2.2.2.2) d)) (fun r S1 h => ?_)
  obtain ⟨⟨r0, f0, e0, p0_0⟩, ⟨r1, f1, e1⟩⟩ := h
  exact ⟨r0, f0.up (rfl : sub md_mo_does__2 md_mo_does__a = true), e0, p0_0, f0, f1⟩
def PX_mo_does_3 (S : sS) (first : Int) : Prop := (3 ≤ Xi S 904 70 ∧ Xi S 904 70 ≤ 6)
def QX_mo_does_3 (S S1 : sS) (first : Int) : Prop := (S1 = S) ∧ FR md_mo_does__3 S S1
theorem a_mo_does_3 {S : sS} (hH : RI S) (first : Int) (hf : 0 ≤ first ∧ first ≤ 5001) (hp : PX_mo_does_3 S first) (d : Nat) : Mp lay0 (d + 8) m_mo_does [.ref 904, iv first] S (fun r S1 => RI S1 ∧ FR md_mo_does__a S S1 ∧ (r = none ∧ QX_mo_does_3 S S1 first)) := by
  refine Mp_w (t_mo_does__3 hH  first hf (hp) d) (fun r S1 h => ?_)
  obtain ⟨r0, f0, e0, p0_0⟩ := h
  exact ⟨r0, f0.up (rfl : sub md_mo_does__3 md_mo_does__a = true), e0, p0_0, f0⟩
def PX_mo_does_7 (S : sS) (first : Int) : Prop := (LSP S) ∧ (0 ≤ Xi S 904 15) ∧ (RBD S) ∧ (Xi S 904 70 = 7) ∧ (0 ≤ Xi S 904 47 ∧ Xi S 904 47 ≤ 8)
def QX_mo_does_7 (S S1 : sS) (first : Int) : Prop := (RD7 S S1) ∧ FR md_mo_does__7 S S1 ∧ FR md_mo_does__7f S S1
theorem a_mo_does_7 {S : sS} (hH : RI S) (first : Int) (hf : 0 ≤ first ∧ first ≤ 5001) (hp : PX_mo_does_7 S first) (d : Nat) : Mp lay0 (d + 8) m_mo_does [.ref 904, iv first] S (fun r S1 => RI S1 ∧ FR md_mo_does__a S S1 ∧ (r = none ∧ QX_mo_does_7 S S1 first)) := by
  refine Mp_w (Mp_and (t_mo_does__7 hH  first hf (hp.1) (hp.2.1) (hp.2.2.1) (hp.2.2.2.1) (hp.2.2.2.2) d) (t_mo_does__7f hH  first hf (hp.1) (hp.2.1) (hp.2.2.1) (hp.2.2.2.1) (hp.2.2.2.2) d)) (fun r S1 h => ?_)
  obtain ⟨⟨r0, f0, e0, p0_0⟩, ⟨r1, f1, e1⟩⟩ := h
  exact ⟨r0, f0.up (rfl : sub md_mo_does__7 md_mo_does__a = true), e0, p0_0, f0, f1⟩
def PX_mo_does_8 (S : sS) (first : Int) : Prop := (LSP S) ∧ (0 ≤ Xi S 904 15) ∧ (RBD S) ∧ (Xi S 904 70 = 8) ∧ (Xi S 904 15 ≤ 100000)
def QX_mo_does_8 (S S1 : sS) (first : Int) : Prop := (RD8 S S1) ∧ FR md_mo_does__8 S S1 ∧ FR md_mo_does__8f S S1
theorem a_mo_does_8 {S : sS} (hH : RI S) (first : Int) (hf : 0 ≤ first ∧ first ≤ 5001) (hp : PX_mo_does_8 S first) (d : Nat) : Mp lay0 (d + 8) m_mo_does [.ref 904, iv first] S (fun r S1 => RI S1 ∧ FR md_mo_does__a S S1 ∧ (r = none ∧ QX_mo_does_8 S S1 first)) := by
  refine Mp_w (Mp_and (t_mo_does__8 hH  first hf (hp.1) (hp.2.1) (hp.2.2.1) (hp.2.2.2.1) (hp.2.2.2.2) d) (t_mo_does__8f hH  first hf (hp.1) (hp.2.1) (hp.2.2.1) (hp.2.2.2.1) (hp.2.2.2.2) d)) (fun r S1 h => ?_)
  obtain ⟨⟨r0, f0, e0, p0_0⟩, ⟨r1, f1, e1⟩⟩ := h
  exact ⟨r0, f0.up (rfl : sub md_mo_does__8 md_mo_does__a = true), e0, p0_0, f0, f1⟩
def PX_mo_does_9 (S : sS) (first : Int) : Prop := (LSP S) ∧ (0 ≤ Xi S 904 15) ∧ (RBD S) ∧ (LXR S) ∧ (Xi S 904 106 = 0) ∧ (rnR S 0 7 ≠ -1) ∧ (rnR S 1 4 = -1 → rnR S 1 0 ≠ -1) ∧ (Xi S 904 70 = 9)
def QX_mo_does_9 (S S1 : sS) (first : Int) : Prop := (RD9 S S1) ∧ FR md_mo_does__9 S S1 ∧ FR md_mo_does__9f S S1
theorem a_mo_does_9 {S : sS} (hH : RI S) (first : Int) (hf : 0 ≤ first ∧ first ≤ 5001) (hp : PX_mo_does_9 S first) (d : Nat) : Mp lay0 (d + 8) m_mo_does [.ref 904, iv first] S (fun r S1 => RI S1 ∧ FR md_mo_does__a S S1 ∧ (r = none ∧ QX_mo_does_9 S S1 first)) := by
  refine Mp_w (Mp_and (t_mo_does__9 hH  first hf (hp.1) (hp.2.1) (hp.2.2.1) (hp.2.2.2.1) (hp.2.2.2.2.1) (hp.2.2.2.2.2.1) (hp.2.2.2.2.2.2.1) (hp.2.2.2.2.2.2.2) d) (t_mo_does__9f hH  first hf (hp.1) (hp.2.1) (hp.2.2.1) (hp.2.2.2.1) (hp.2.2.2.2.1) (hp.2.2.2.2.2.1) (hp.2.2.2.2.2.2.1) (hp.2.2.2.2.2.2.2) d)) (fun r S1 h => ?_)
  obtain ⟨⟨r0, f0, e0, p0_0⟩, ⟨r1, f1, e1⟩⟩ := h
  exact ⟨r0, f0.up (rfl : sub md_mo_does__9 md_mo_does__a = true), e0, p0_0, f0, f1⟩
def PX_mo_does_10 (S : sS) (first : Int) : Prop := (LSP S) ∧ (0 ≤ Xi S 904 15) ∧ (RBD S) ∧ (LXR S) ∧ (0 ≤ Xi S 904 71 ∧ Xi S 904 71 ≤ 2600 ∧ 0 ≤ Xi S 904 72 ∧ Xi S 904 72 ≤ 2600) ∧ (Xi S 904 70 = 10) ∧ (0 ≤ Xi S 904 16 ∧ Xi S 904 16 ≤ 16 ∧ 0 ≤ Xi S 904 18 ∧ Xi S 904 18 ≤ 8) ∧ (cKR S + Xi S 904 72 ≤ 16) ∧ (Xi S 904 15 ≤ 100000)
def QX_mo_does_10 (S S1 : sS) (first : Int) : Prop := (RD10 S S1) ∧ FR md_mo_does__10 S S1 ∧ FR md_mo_does__10f S S1
theorem a_mo_does_10 {S : sS} (hH : RI S) (first : Int) (hf : 0 ≤ first ∧ first ≤ 5001) (hp : PX_mo_does_10 S first) (d : Nat) : Mp lay0 (d + 8) m_mo_does [.ref 904, iv first] S (fun r S1 => RI S1 ∧ FR md_mo_does__a S S1 ∧ (r = none ∧ QX_mo_does_10 S S1 first)) := by
  refine Mp_w (Mp_and (t_mo_does__10 hH  first hf (hp.1) (hp.2.1) (hp.2.2.1) (hp.2.2.2.1) (hp.2.2.2.2.1) (hp.2.2.2.2.2.1) (hp.2.2.2.2.2.2.1) (hp.2.2.2.2.2.2.2.1) (hp.2.2.2.2.2.2.2.2) d) (t_mo_does__10f hH  first hf (hp.1) (hp.2.1) (hp.2.2.1) (hp.2.2.2.1) (hp.2.2.2.2.1) (hp.2.2.2.2.2.1) (hp.2.2.2.2.2.2.1) (hp.2.2.2.2.2.2.2.1) (hp.2.2.2.2.2.2.2.2) d)) (fun r S1 h => ?_)
  obtain ⟨⟨r0, f0, e0, p0_0⟩, ⟨r1, f1, e1⟩⟩ := h
  exact ⟨r0, f0.up (rfl : sub md_mo_does__10 md_mo_does__a = true), e0, p0_0, f0, f1⟩
def PX_mo_does_11 (S : sS) (first : Int) : Prop := (LSP S) ∧ (0 ≤ Xi S 904 15) ∧ (RBD S) ∧ (LXR S) ∧ (0 ≤ Xi S 904 71 ∧ Xi S 904 71 ≤ 2600 ∧ 0 ≤ Xi S 904 72 ∧ Xi S 904 72 ≤ 2600) ∧ (Xi S 904 70 = 11) ∧ (Hid (Xi S 904 78 ≠ -1 → rnR S (Xi S 904 78) 0 ≠ -1)) ∧ (0 ≤ Xi S 904 49 ∧ Xi S 904 49 + Xi S 904 72 ≤ 12) ∧ (Xi S 904 15 ≤ 100000)
def QX_mo_does_11 (S S1 : sS) (first : Int) : Prop := (RD11 S S1) ∧ FR md_mo_does__11 S S1 ∧ FR md_mo_does__11f S S1
theorem a_mo_does_11 {S : sS} (hH : RI S) (first : Int) (hf : 0 ≤ first ∧ first ≤ 5001) (hp : PX_mo_does_11 S first) (d : Nat) : Mp lay0 (d + 8) m_mo_does [.ref 904, iv first] S (fun r S1 => RI S1 ∧ FR md_mo_does__a S S1 ∧ (r = none ∧ QX_mo_does_11 S S1 first)) := by
  refine Mp_w (Mp_and (t_mo_does__11 hH  first hf (hp.1) (hp.2.1) (hp.2.2.1) (hp.2.2.2.1) (hp.2.2.2.2.1) (hp.2.2.2.2.2.1) (hp.2.2.2.2.2.2.1) (hp.2.2.2.2.2.2.2.1) (hp.2.2.2.2.2.2.2.2) d) (t_mo_does__11f hH  first hf (hp.1) (hp.2.1) (hp.2.2.1) (hp.2.2.2.1) (hp.2.2.2.2.1) (hp.2.2.2.2.2.1) (hp.2.2.2.2.2.2.1) (hp.2.2.2.2.2.2.2.1) (hp.2.2.2.2.2.2.2.2) d)) (fun r S1 h => ?_)
  obtain ⟨⟨r0, f0, e0, p0_0⟩, ⟨r1, f1, e1⟩⟩ := h
  exact ⟨r0, f0.up (rfl : sub md_mo_does__11 md_mo_does__a = true), e0, p0_0, f0, f1⟩
def PX_mo_does_12 (S : sS) (first : Int) : Prop := (LSP S) ∧ (0 ≤ Xi S 904 15) ∧ (RBD S) ∧ (LXR S) ∧ (ABV S) ∧ (0 ≤ Xi S 904 71 ∧ Xi S 904 71 ≤ 2600 ∧ 0 ≤ Xi S 904 72 ∧ Xi S 904 72 ≤ 2600) ∧ (Hid (KB3 S)) ∧ (Hid (OB4 S)) ∧ (Hid (∀ j : Nat, -1 ≤ Xi S 922 j ∧ Xi S 922 j ≤ 23)) ∧ (Xi S 904 106 = 0) ∧ (0 ≤ Xi S 904 19 ∧ Xi S 904 19 ≤ 24) ∧ (-1 ≤ Xi S 904 74 ∧ Xi S 904 74 ≤ 2600) ∧ (Hid (LOQ S (Xi S 904 71) (Xi S 904 72).toNat)) ∧ (-1 ≤ Xi S 904 110 ∧ Xi S 904 110 ≤ 15) ∧ (0 ≤ Xi S 904 112 ∧ Xi S 904 112 ≤ 6) ∧ (Hid (Xi S 904 70 ≠ 13 → ∀ i : Nat, (i : Int) < Xi S 904 112 → 0 ≤ Xi S 967 i ∧ Xi S 967 i ≤ 7000)) ∧ (Xi S 904 70 = 12)
def QX_mo_does_12 (S S1 : sS) (first : Int) : Prop := (RDB S S1) ∧ FR md_mo_does__12 S S1 ∧ FR md_mo_does__12f S S1
theorem a_mo_does_12 {S : sS} (hH : RI S) (first : Int) (hf : 0 ≤ first ∧ first ≤ 5001) (hp : PX_mo_does_12 S first) (d : Nat) : Mp lay0 (d + 8) m_mo_does [.ref 904, iv first] S (fun r S1 => RI S1 ∧ FR md_mo_does__a S S1 ∧ (r = none ∧ QX_mo_does_12 S S1 first)) := by
  refine Mp_w (Mp_and (t_mo_does__12 hH  first hf (hp.1) (hp.2.1) (hp.2.2.1) (hp.2.2.2.1) (hp.2.2.2.2.1) (hp.2.2.2.2.2.1) (hp.2.2.2.2.2.2.1) (hp.2.2.2.2.2.2.2.1) (hp.2.2.2.2.2.2.2.2.1) (hp.2.2.2.2.2.2.2.2.2.1) (hp.2.2.2.2.2.2.2.2.2.2.1) (hp.2.2.2.2.2.2.2.2.2.2.2.1) (hp.2.2.2.2.2.2.2.2.2.2.2.2.1) (hp.2.2.2.2.2.2.2.2.2.2.2.2.2.1) (hp.2.2.2.2.2.2.2.2.2.2.2.2.2.2.1) (hp.2.2.2.2.2.2.2.2.2.2.2.2.2.2.2.1) (hp.2.2.2.2.2.2.2.2.2.2.2.2.2.2.2.2) d) (t_mo_does__12f hH  first hf (hp.1) (hp.2.1) (hp.2.2.1) (hp.2.2.2.1) (hp.2.2.2.2.1) (hp.2.2.2.2.2.1) (hp.2.2.2.2.2.2.1) (hp.2.2.2.2.2.2.2.1) (hp.2.2.2.2.2.2.2.2.1) (hp.2.2.2.2.2.2.2.2.2.1) (hp.2.2.2.2.2.2.2.2.2.2.1) (hp.2.2.2.2.2.2.2.2.2.2.2.1) (hp.2.2.2.2.2.2.2.2.2.2.2.2.1) (hp.2.2.2.2.2.2.2.2.2.2.2.2.2.1) (hp.2.2.2.2.2.2.2.2.2.2.2.2.2.2.1) (hp.2.2.2.2.2.2.2.2.2.2.2.2.2.2.2.1) (hp.2.2.2.2.2.2.2.2.2.2.2.2.2.2.2.2) d)) (fun r S1 h => ?_)
  obtain ⟨⟨r0, f0, e0, p0_0⟩, ⟨r1, f1, e1⟩⟩ := h
  exact ⟨r0, f0.up (rfl : sub md_mo_does__12 md_mo_does__a = true), e0, p0_0, f0, f1⟩
def PX_mo_does_13 (S : sS) (first : Int) : Prop := (LSP S) ∧ (0 ≤ Xi S 904 15) ∧ (RBD S) ∧ (LXR S) ∧ (ABV S) ∧ (0 ≤ Xi S 904 71 ∧ Xi S 904 71 ≤ 2600 ∧ 0 ≤ Xi S 904 72 ∧ Xi S 904 72 ≤ 2600) ∧ (Hid (KB3 S)) ∧ (Hid (OB4 S)) ∧ (Hid (∀ j : Nat, -1 ≤ Xi S 922 j ∧ Xi S 922 j ≤ 23)) ∧ (Xi S 904 106 = 0) ∧ (0 ≤ Xi S 904 19 ∧ Xi S 904 19 ≤ 24) ∧ (-1 ≤ Xi S 904 74 ∧ Xi S 904 74 ≤ 2600) ∧ (Hid (LOQ S (Xi S 904 71) (Xi S 904 72).toNat)) ∧ (-1 ≤ Xi S 904 110 ∧ Xi S 904 110 ≤ 15) ∧ (0 ≤ Xi S 904 112 ∧ Xi S 904 112 ≤ 6) ∧ (Hid (Xi S 904 70 ≠ 13 → ∀ i : Nat, (i : Int) < Xi S 904 112 → 0 ≤ Xi S 967 i ∧ Xi S 967 i ≤ 7000)) ∧ (Xi S 904 70 = 13)
def QX_mo_does_13 (S S1 : sS) (first : Int) : Prop := (RDB S S1) ∧ FR md_mo_does__13 S S1 ∧ FR md_mo_does__13f S S1
theorem a_mo_does_13 {S : sS} (hH : RI S) (first : Int) (hf : 0 ≤ first ∧ first ≤ 5001) (hp : PX_mo_does_13 S first) (d : Nat) : Mp lay0 (d + 8) m_mo_does [.ref 904, iv first] S (fun r S1 => RI S1 ∧ FR md_mo_does__a S S1 ∧ (r = none ∧ QX_mo_does_13 S S1 first)) := by
  refine Mp_w (Mp_and (t_mo_does__13 hH  first hf (hp.1) (hp.2.1) (hp.2.2.1) (hp.2.2.2.1) (hp.2.2.2.2.1) (hp.2.2.2.2.2.1) (hp.2.2.2.2.2.2.1) (hp.2.2.2.2.2.2.2.1) (hp.2.2.2.2.2.2.2.2.1) (hp.2.2.2.2.2.2.2.2.2.1) (hp.2.2.2.2.2.2.2.2.2.2.1) (hp.2.2.2.2.2.2.2.2.2.2.2.1) (hp.2.2.2.2.2.2.2.2.2.2.2.2.1) (hp.2.2.2.2.2.2.2.2.2.2.2.2.2.1) (hp.2.2.2.2.2.2.2.2.2.2.2.2.2.2.1) (hp.2.2.2.2.2.2.2.2.2.2.2.2.2.2.2.1) (hp.2.2.2.2.2.2.2.2.2.2.2.2.2.2.2.2) d) (t_mo_does__13f hH  first hf (hp.1) (hp.2.1) (hp.2.2.1) (hp.2.2.2.1) (hp.2.2.2.2.1) (hp.2.2.2.2.2.1) (hp.2.2.2.2.2.2.1) (hp.2.2.2.2.2.2.2.1) (hp.2.2.2.2.2.2.2.2.1) (hp.2.2.2.2.2.2.2.2.2.1) (hp.2.2.2.2.2.2.2.2.2.2.1) (hp.2.2.2.2.2.2.2.2.2.2.2.1) (hp.2.2.2.2.2.2.2.2.2.2.2.2.1) (hp.2.2.2.2.2.2.2.2.2.2.2.2.2.1) (hp.2.2.2.2.2.2.2.2.2.2.2.2.2.2.1) (hp.2.2.2.2.2.2.2.2.2.2.2.2.2.2.2.1) (hp.2.2.2.2.2.2.2.2.2.2.2.2.2.2.2.2) d)) (fun r S1 h => ?_)
  obtain ⟨⟨r0, f0, e0, p0_0⟩, ⟨r1, f1, e1⟩⟩ := h
  exact ⟨r0, f0.up (rfl : sub md_mo_does__13 md_mo_does__a = true), e0, p0_0, f0, f1⟩
def PX_mo_does_14 (S : sS) (first : Int) : Prop := (LSP S) ∧ (0 ≤ Xi S 904 15) ∧ (RBD S) ∧ (0 ≤ Xi S 904 71 ∧ Xi S 904 71 ≤ 2600 ∧ -2 ≤ Xi S 904 78 ∧ Xi S 904 78 ≤ 2600 ∧ -1 ≤ Xi S 904 74 ∧ Xi S 904 74 ≤ 2600 ∧ 0 ≤ Xi S 904 72 ∧ Xi S 904 72 ≤ 2600) ∧ (Xi S 904 70 = 14) ∧ (Xi S 904 106 = 0) ∧ (0 ≤ Xi S 904 19 ∧ Xi S 904 19 ≤ 24) ∧ (Hid (rnR S (Xi S 904 71) 4 = -1 → Xi S 904 19 ≤ 23)) ∧ (0 ≤ Xi S 904 51 ∧ Xi S 904 51 ≤ 144)
def QX_mo_does_14 (S S1 : sS) (first : Int) : Prop := (RD14 S S1) ∧ FR md_mo_does__14 S S1 ∧ FR md_mo_does__14f S S1
theorem a_mo_does_14 {S : sS} (hH : RI S) (first : Int) (hf : 0 ≤ first ∧ first ≤ 5001) (hp : PX_mo_does_14 S first) (d : Nat) : Mp lay0 (d + 8) m_mo_does [.ref 904, iv first] S (fun r S1 => RI S1 ∧ FR md_mo_does__a S S1 ∧ (r = none ∧ QX_mo_does_14 S S1 first)) := by
  refine Mp_w (Mp_and (t_mo_does__14 hH  first hf (hp.1) (hp.2.1) (hp.2.2.1) (hp.2.2.2.1) (hp.2.2.2.2.1) (hp.2.2.2.2.2.1) (hp.2.2.2.2.2.2.1) (hp.2.2.2.2.2.2.2.1) (hp.2.2.2.2.2.2.2.2) d) (t_mo_does__14f hH  first hf (hp.1) (hp.2.1) (hp.2.2.1) (hp.2.2.2.1) (hp.2.2.2.2.1) (hp.2.2.2.2.2.1) (hp.2.2.2.2.2.2.1) (hp.2.2.2.2.2.2.2.1) (hp.2.2.2.2.2.2.2.2) d)) (fun r S1 h => ?_)
  obtain ⟨⟨r0, f0, e0, p0_0⟩, ⟨r1, f1, e1⟩⟩ := h
  exact ⟨r0, f0.up (rfl : sub md_mo_does__14 md_mo_does__a = true), e0, p0_0, f0, f1⟩
def PX_mo_does_15a (S : sS) (first : Int) : Prop := (LSP S) ∧ (0 ≤ Xi S 904 15) ∧ (RBD S) ∧ (LXR S) ∧ (Hid (∀ j : Nat, -1 ≤ Xi S 922 j ∧ Xi S 922 j ≤ 23)) ∧ (Xi S 904 142 = 1) ∧ (Xi S 904 106 = 0) ∧ (rnR S (Xi S 904 71) 0 ≠ -1 ∧ rnR S (Xi S 904 71) 0 ≤ 15) ∧ (0 ≤ Xi S 967 0 ∧ Xi S 967 0 ≤ 7000) ∧ (15 ≤ Xi S 904 70 ∧ Xi S 904 70 ≤ 16)
def QX_mo_does_15a (S S1 : sS) (first : Int) : Prop := (RUS S S1) ∧ FR md_mo_does__15a S S1 ∧ FR md_mo_does__15af S S1
theorem a_mo_does_15a {S : sS} (hH : RI S) (first : Int) (hf : 0 ≤ first ∧ first ≤ 5001) (hp : PX_mo_does_15a S first) (d : Nat) : Mp lay0 (d + 8) m_mo_does [.ref 904, iv first] S (fun r S1 => RI S1 ∧ FR md_mo_does__a S S1 ∧ (r = none ∧ QX_mo_does_15a S S1 first)) := by
  refine Mp_w (Mp_and (t_mo_does__15a hH  first hf (hp.1) (hp.2.1) (hp.2.2.1) (hp.2.2.2.1) (hp.2.2.2.2.1) (hp.2.2.2.2.2.1) (hp.2.2.2.2.2.2.1) (hp.2.2.2.2.2.2.2.1) (hp.2.2.2.2.2.2.2.2.1) (hp.2.2.2.2.2.2.2.2.2) d) (t_mo_does__15af hH  first hf (hp.1) (hp.2.1) (hp.2.2.1) (hp.2.2.2.1) (hp.2.2.2.2.1) (hp.2.2.2.2.2.1) (hp.2.2.2.2.2.2.1) (hp.2.2.2.2.2.2.2.1) (hp.2.2.2.2.2.2.2.2.1) (hp.2.2.2.2.2.2.2.2.2) d)) (fun r S1 h => ?_)
  obtain ⟨⟨r0, f0, e0, p0_0⟩, ⟨r1, f1, e1⟩⟩ := h
  exact ⟨r0, f0.up (rfl : sub md_mo_does__15a md_mo_does__a = true), e0, p0_0, f0, f1⟩
def PX_mo_does_15b (S : sS) (first : Int) : Prop := (LSP S) ∧ (0 ≤ Xi S 904 15) ∧ (RBD S) ∧ (LXR S) ∧ (Xi S 904 142 = 2) ∧ (0 ≤ Xi S 904 78 ∧ Xi S 904 78 ≤ Xi S 904 69 ∧ Xi S 904 69 ≤ 2600) ∧ (0 ≤ Xi S 904 30 ∧ Xi S 904 30 + (Xi S 904 69 - Xi S 904 78) ≤ 64) ∧ (15 ≤ Xi S 904 70 ∧ Xi S 904 70 ≤ 16)
def QX_mo_does_15b (S S1 : sS) (first : Int) : Prop := (RD16 S S1) ∧ FR md_mo_does__15b S S1 ∧ FR md_mo_does__15bf S S1
theorem a_mo_does_15b {S : sS} (hH : RI S) (first : Int) (hf : 0 ≤ first ∧ first ≤ 5001) (hp : PX_mo_does_15b S first) (d : Nat) : Mp lay0 (d + 8) m_mo_does [.ref 904, iv first] S (fun r S1 => RI S1 ∧ FR md_mo_does__a S S1 ∧ (r = none ∧ QX_mo_does_15b S S1 first)) := by
  refine Mp_w (Mp_and (t_mo_does__15b hH  first hf (hp.1) (hp.2.1) (hp.2.2.1) (hp.2.2.2.1) (hp.2.2.2.2.1) (hp.2.2.2.2.2.1) (hp.2.2.2.2.2.2.1) (hp.2.2.2.2.2.2.2) d) (t_mo_does__15bf hH  first hf (hp.1) (hp.2.1) (hp.2.2.1) (hp.2.2.2.1) (hp.2.2.2.2.1) (hp.2.2.2.2.2.1) (hp.2.2.2.2.2.2.1) (hp.2.2.2.2.2.2.2) d)) (fun r S1 h => ?_)
  obtain ⟨⟨r0, f0, e0, p0_0⟩, ⟨r1, f1, e1⟩⟩ := h
  exact ⟨r0, f0.up (rfl : sub md_mo_does__15b md_mo_does__a = true), e0, p0_0, f0, f1⟩
def PX_mo_does_15c (S : sS) (first : Int) : Prop := (LSP S) ∧ (0 ≤ Xi S 904 15) ∧ (RBD S) ∧ (LXR S) ∧ (ABV S) ∧ (0 ≤ Xi S 904 71 ∧ Xi S 904 71 ≤ 2600 ∧ 0 ≤ Xi S 904 72 ∧ Xi S 904 72 ≤ 2600) ∧ (Hid (KB3 S)) ∧ (Hid (OB4 S)) ∧ (Hid (∀ j : Nat, -1 ≤ Xi S 922 j ∧ Xi S 922 j ≤ 23)) ∧ (Xi S 904 106 = 0) ∧ (0 ≤ Xi S 904 19 ∧ Xi S 904 19 ≤ 24) ∧ (-1 ≤ Xi S 904 74 ∧ Xi S 904 74 ≤ 2600) ∧ (Hid (LOQ S (Xi S 904 71) (Xi S 904 72).toNat)) ∧ (-1 ≤ Xi S 904 110 ∧ Xi S 904 110 ≤ 15) ∧ (0 ≤ Xi S 904 112 ∧ Xi S 904 112 ≤ 6) ∧ (Hid (Xi S 904 70 ≠ 13 → ∀ i : Nat, (i : Int) < Xi S 904 112 → 0 ≤ Xi S 967 i ∧ Xi S 967 i ≤ 7000)) ∧ (Xi S 904 142 = 3) ∧ (15 ≤ Xi S 904 70 ∧ Xi S 904 70 ≤ 16)
def QX_mo_does_15c (S S1 : sS) (first : Int) : Prop := (RDB (uI S 904 73 (Int32.ofInt 0)) S1) ∧ FR md_mo_does__15c S S1 ∧ FR md_mo_does__15cf S S1
theorem a_mo_does_15c {S : sS} (hH : RI S) (first : Int) (hf : 0 ≤ first ∧ first ≤ 5001) (hp : PX_mo_does_15c S first) (d : Nat) : Mp lay0 (d + 8) m_mo_does [.ref 904, iv first] S (fun r S1 => RI S1 ∧ FR md_mo_does__a S S1 ∧ (r = none ∧ QX_mo_does_15c S S1 first)) := by
  refine Mp_w (Mp_and (t_mo_does__15c hH  first hf (hp.1) (hp.2.1) (hp.2.2.1) (hp.2.2.2.1) (hp.2.2.2.2.1) (hp.2.2.2.2.2.1) (hp.2.2.2.2.2.2.1) (hp.2.2.2.2.2.2.2.1) (hp.2.2.2.2.2.2.2.2.1) (hp.2.2.2.2.2.2.2.2.2.1) (hp.2.2.2.2.2.2.2.2.2.2.1) (hp.2.2.2.2.2.2.2.2.2.2.2.1) (hp.2.2.2.2.2.2.2.2.2.2.2.2.1) (hp.2.2.2.2.2.2.2.2.2.2.2.2.2.1) (hp.2.2.2.2.2.2.2.2.2.2.2.2.2.2.1) (hp.2.2.2.2.2.2.2.2.2.2.2.2.2.2.2.1) (hp.2.2.2.2.2.2.2.2.2.2.2.2.2.2.2.2.1) (hp.2.2.2.2.2.2.2.2.2.2.2.2.2.2.2.2.2) d) (t_mo_does__15cf hH  first hf (hp.1) (hp.2.1) (hp.2.2.1) (hp.2.2.2.1) (hp.2.2.2.2.1) (hp.2.2.2.2.2.1) (hp.2.2.2.2.2.2.1) (hp.2.2.2.2.2.2.2.1) (hp.2.2.2.2.2.2.2.2.1) (hp.2.2.2.2.2.2.2.2.2.1) (hp.2.2.2.2.2.2.2.2.2.2.1) (hp.2.2.2.2.2.2.2.2.2.2.2.1) (hp.2.2.2.2.2.2.2.2.2.2.2.2.1) (hp.2.2.2.2.2.2.2.2.2.2.2.2.2.1) (hp.2.2.2.2.2.2.2.2.2.2.2.2.2.2.1) (hp.2.2.2.2.2.2.2.2.2.2.2.2.2.2.2.1) (hp.2.2.2.2.2.2.2.2.2.2.2.2.2.2.2.2.1) (hp.2.2.2.2.2.2.2.2.2.2.2.2.2.2.2.2.2) d)) (fun r S1 h => ?_)
  obtain ⟨⟨r0, f0, e0, p0_0⟩, ⟨r1, f1, e1⟩⟩ := h
  exact ⟨r0, f0.up (rfl : sub md_mo_does__15c md_mo_does__a = true), e0, p0_0, f0, f1⟩
def PX_mo_does_15d (S : sS) (first : Int) : Prop := (LSP S) ∧ (0 ≤ Xi S 904 15) ∧ (RBD S) ∧ (LXR S) ∧ (ABV S) ∧ (0 ≤ Xi S 904 71 ∧ Xi S 904 71 ≤ 2600 ∧ 0 ≤ Xi S 904 72 ∧ Xi S 904 72 ≤ 2600) ∧ (Hid (KB3 S)) ∧ (Hid (∀ j : Nat, -1 ≤ Xi S 922 j ∧ Xi S 922 j ≤ 23)) ∧ (0 ≤ Xi S 904 32 ∧ Xi S 904 32 ≤ 12) ∧ (Xi S 904 142 = 4) ∧ (Xi S 904 106 = 0) ∧ (0 ≤ Xi S 950 (Xi S 904 78).toNat ∧ Xi S 950 (Xi S 904 78).toNat ≤ 5100) ∧ (Hid (∀ i : Nat, (i : Int) < Xi S 904 72 → (0 ≤ o15R S i ∧ o15R S i ≤ 23) ∧ 0 ≤ a15R S (o15R S i) ∧ a15R S (o15R S i) ≤ 7000)) ∧ (15 ≤ Xi S 904 70 ∧ Xi S 904 70 ≤ 16)
def QX_mo_does_15d (S S1 : sS) (first : Int) : Prop := (RVB4 S S1) ∧ FR md_mo_does__15d S S1 ∧ FR md_mo_does__15df S S1
theorem a_mo_does_15d {S : sS} (hH : RI S) (first : Int) (hf : 0 ≤ first ∧ first ≤ 5001) (hp : PX_mo_does_15d S first) (d : Nat) : Mp lay0 (d + 8) m_mo_does [.ref 904, iv first] S (fun r S1 => RI S1 ∧ FR md_mo_does__a S S1 ∧ (r = none ∧ QX_mo_does_15d S S1 first)) := by
  refine Mp_w (Mp_and (t_mo_does__15d hH  first hf (hp.1) (hp.2.1) (hp.2.2.1) (hp.2.2.2.1) (hp.2.2.2.2.1) (hp.2.2.2.2.2.1) (hp.2.2.2.2.2.2.1) (hp.2.2.2.2.2.2.2.1) (hp.2.2.2.2.2.2.2.2.1) (hp.2.2.2.2.2.2.2.2.2.1) (hp.2.2.2.2.2.2.2.2.2.2.1) (hp.2.2.2.2.2.2.2.2.2.2.2.1) (hp.2.2.2.2.2.2.2.2.2.2.2.2.1) (hp.2.2.2.2.2.2.2.2.2.2.2.2.2) d) (t_mo_does__15df hH  first hf (hp.1) (hp.2.1) (hp.2.2.1) (hp.2.2.2.1) (hp.2.2.2.2.1) (hp.2.2.2.2.2.1) (hp.2.2.2.2.2.2.1) (hp.2.2.2.2.2.2.2.1) (hp.2.2.2.2.2.2.2.2.1) (hp.2.2.2.2.2.2.2.2.2.1) (hp.2.2.2.2.2.2.2.2.2.2.1) (hp.2.2.2.2.2.2.2.2.2.2.2.1) (hp.2.2.2.2.2.2.2.2.2.2.2.2.1) (hp.2.2.2.2.2.2.2.2.2.2.2.2.2) d)) (fun r S1 h => ?_)
  obtain ⟨⟨r0, f0, e0, p0_0⟩, ⟨r1, f1, e1⟩⟩ := h
  exact ⟨r0, f0.up (rfl : sub md_mo_does__15d md_mo_does__a = true), e0, p0_0, f0, f1⟩
def PX_mo_does_17 (S : sS) (first : Int) : Prop := (LSP S) ∧ (0 ≤ Xi S 904 15) ∧ (RBD S) ∧ (LXR S) ∧ (Xi S 904 70 = 17) ∧ (Xi S 904 106 = 0) ∧ (rnR S 0 0 ≠ -1) ∧ (0 ≤ Xi S 904 32 ∧ Xi S 904 32 ≤ 12)
def QX_mo_does_17 (S S1 : sS) (first : Int) : Prop := (RD17 S S1) ∧ FR md_mo_does__17 S S1 ∧ FR md_mo_does__17f S S1
theorem a_mo_does_17 {S : sS} (hH : RI S) (first : Int) (hf : 0 ≤ first ∧ first ≤ 5001) (hp : PX_mo_does_17 S first) (d : Nat) : Mp lay0 (d + 8) m_mo_does [.ref 904, iv first] S (fun r S1 => RI S1 ∧ FR md_mo_does__a S S1 ∧ (r = none ∧ QX_mo_does_17 S S1 first)) := by
  refine Mp_w (Mp_and (t_mo_does__17 hH  first hf (hp.1) (hp.2.1) (hp.2.2.1) (hp.2.2.2.1) (hp.2.2.2.2.1) (hp.2.2.2.2.2.1) (hp.2.2.2.2.2.2.1) (hp.2.2.2.2.2.2.2) d) (t_mo_does__17f hH  first hf (hp.1) (hp.2.1) (hp.2.2.1) (hp.2.2.2.1) (hp.2.2.2.2.1) (hp.2.2.2.2.2.1) (hp.2.2.2.2.2.2.1) (hp.2.2.2.2.2.2.2) d)) (fun r S1 h => ?_)
  obtain ⟨⟨r0, f0, e0, p0_0⟩, ⟨r1, f1, e1⟩⟩ := h
  exact ⟨r0, f0.up (rfl : sub md_mo_does__17 md_mo_does__a = true), e0, p0_0, f0, f1⟩
def PX_mo_does_18 (S : sS) (first : Int) : Prop := (LSP S) ∧ (0 ≤ Xi S 904 15) ∧ (RBD S) ∧ (Xi S 904 70 = 18) ∧ (rnR S 0 0 ≠ -1) ∧ (0 ≤ Xi S 904 23 ∧ Xi S 904 23 ≤ 24)
def QX_mo_does_18 (S S1 : sS) (first : Int) : Prop := (RD18 S S1) ∧ FR md_mo_does__18 S S1 ∧ FR md_mo_does__18f S S1
theorem a_mo_does_18 {S : sS} (hH : RI S) (first : Int) (hf : 0 ≤ first ∧ first ≤ 5001) (hp : PX_mo_does_18 S first) (d : Nat) : Mp lay0 (d + 8) m_mo_does [.ref 904, iv first] S (fun r S1 => RI S1 ∧ FR md_mo_does__a S S1 ∧ (r = none ∧ QX_mo_does_18 S S1 first)) := by
  refine Mp_w (Mp_and (t_mo_does__18 hH  first hf (hp.1) (hp.2.1) (hp.2.2.1) (hp.2.2.2.1) (hp.2.2.2.2.1) (hp.2.2.2.2.2) d) (t_mo_does__18f hH  first hf (hp.1) (hp.2.1) (hp.2.2.1) (hp.2.2.2.1) (hp.2.2.2.2.1) (hp.2.2.2.2.2) d)) (fun r S1 h => ?_)
  obtain ⟨⟨r0, f0, e0, p0_0⟩, ⟨r1, f1, e1⟩⟩ := h
  exact ⟨r0, f0.up (rfl : sub md_mo_does__18 md_mo_does__a = true), e0, p0_0, f0, f1⟩
def PX_mo_does_19 (S : sS) (first : Int) : Prop := (LSP S) ∧ (0 ≤ Xi S 904 15) ∧ (RBD S) ∧ (Xi S 904 70 = 19) ∧ (0 ≤ Xi S 904 41 ∧ Xi S 904 41 ≤ 6) ∧ ((Xi S 904 79 = 0 ∨ Xi S 904 79 = 1) ∧ (Xi S 904 80 = 0 ∨ Xi S 904 80 = 1))
def QX_mo_does_19 (S S1 : sS) (first : Int) : Prop := (RD19 S S1) ∧ FR md_mo_does__19 S S1 ∧ FR md_mo_does__19f S S1
theorem a_mo_does_19 {S : sS} (hH : RI S) (first : Int) (hf : 0 ≤ first ∧ first ≤ 5001) (hp : PX_mo_does_19 S first) (d : Nat) : Mp lay0 (d + 8) m_mo_does [.ref 904, iv first] S (fun r S1 => RI S1 ∧ FR md_mo_does__a S S1 ∧ (r = none ∧ QX_mo_does_19 S S1 first)) := by
  refine Mp_w (Mp_and (t_mo_does__19 hH  first hf (hp.1) (hp.2.1) (hp.2.2.1) (hp.2.2.2.1) (hp.2.2.2.2.1) (hp.2.2.2.2.2) d) (t_mo_does__19f hH  first hf (hp.1) (hp.2.1) (hp.2.2.1) (hp.2.2.2.1) (hp.2.2.2.2.1) (hp.2.2.2.2.2) d)) (fun r S1 h => ?_)
  obtain ⟨⟨r0, f0, e0, p0_0⟩, ⟨r1, f1, e1⟩⟩ := h
  exact ⟨r0, f0.up (rfl : sub md_mo_does__19 md_mo_does__a = true), e0, p0_0, f0, f1⟩
def PX_mo_does_20 (S : sS) (first : Int) : Prop := (0 ≤ Xi S 904 19 ∧ Xi S 904 19 ≤ 24) ∧ (Xi S 904 106 = 0) ∧ (0 ≤ Xi S 904 147 ∧ Xi S 904 147 ≤ 5) ∧ (0 ≤ Xi S 904 144 ∧ Xi S 904 144 ≤ 5200) ∧ (0 ≤ Xi S 904 146 ∧ Xi S 904 146 ≤ 5200) ∧ (Hid (∀ i : Nat, (i : Int) < Xi S 904 144 → 0 ≤ Xi S 988 i ∧ Xi S 988 i ≤ 23)) ∧ (Hid (∀ i : Nat, (i : Int) < Xi S 904 146 → 0 ≤ Xi S 989 i ∧ Xi S 989 i ≤ 23)) ∧ (Xi S 904 70 = 20)
def QX_mo_does_20 (S S1 : sS) (first : Int) : Prop := (DSY S S1 first) ∧ FR md_mo_does__20 S S1 ∧ FR md_mo_does__20f S S1
theorem a_mo_does_20 {S : sS} (hH : RI S) (first : Int) (hf : 0 ≤ first ∧ first ≤ 5001) (hp : PX_mo_does_20 S first) (d : Nat) : Mp lay0 (d + 8) m_mo_does [.ref 904, iv first] S (fun r S1 => RI S1 ∧ FR md_mo_does__a S S1 ∧ (r = none ∧ QX_mo_does_20 S S1 first)) := by
  refine Mp_w (Mp_and (t_mo_does__20 hH  first hf (hp.1) (hp.2.1) (hp.2.2.1) (hp.2.2.2.1) (hp.2.2.2.2.1) (hp.2.2.2.2.2.1) (hp.2.2.2.2.2.2.1) (hp.2.2.2.2.2.2.2) d) (t_mo_does__20f hH  first hf (hp.1) (hp.2.1) (hp.2.2.1) (hp.2.2.2.1) (hp.2.2.2.2.1) (hp.2.2.2.2.2.1) (hp.2.2.2.2.2.2.1) (hp.2.2.2.2.2.2.2) d)) (fun r S1 h => ?_)
  obtain ⟨⟨r0, f0, e0, p0_0⟩, ⟨r1, f1, e1⟩⟩ := h
  exact ⟨r0, f0.up (rfl : sub md_mo_does__20 md_mo_does__a = true), e0, p0_0, f0, f1⟩
def DKP (S : sS) (first : Int) : Prop := ((0 ≤ Xi S 904 70 ∧ Xi S 904 70 ≤ 20) ∧ (15 ≤ Xi S 904 70 → Xi S 904 70 ≤ 16 → 1 ≤ Xi S 904 142 ∧ Xi S 904 142 ≤ 4)) ∧ (Xi S 904 70 = 0 → PX_mo_does_0 S first) ∧ (Xi S 904 70 = 1 → PX_mo_does_1 S first) ∧ (Xi S 904 70 = 2 → PX_mo_does_2 S first) ∧ (3 ≤ Xi S 904 70 ∧ Xi S 904 70 ≤ 6 → PX_mo_does_3 S first) ∧ (Xi S 904 70 = 7 → PX_mo_does_7 S first) ∧ (Xi S 904 70 = 8 → PX_mo_does_8 S first) ∧ (Xi S 904 70 = 9 → PX_mo_does_9 S first) ∧ (Xi S 904 70 = 10 → PX_mo_does_10 S first) ∧ (Xi S 904 70 = 11 → PX_mo_does_11 S first) ∧ (Xi S 904 70 = 12 → PX_mo_does_12 S first) ∧ (Xi S 904 70 = 13 → PX_mo_does_13 S first) ∧ (Xi S 904 70 = 14 → PX_mo_does_14 S first) ∧ ((Xi S 904 70 = 15 ∨ Xi S 904 70 = 16) ∧ Xi S 904 142 = 1 → PX_mo_does_15a S first) ∧ ((Xi S 904 70 = 15 ∨ Xi S 904 70 = 16) ∧ Xi S 904 142 = 2 → PX_mo_does_15b S first) ∧ ((Xi S 904 70 = 15 ∨ Xi S 904 70 = 16) ∧ Xi S 904 142 = 3 → PX_mo_does_15c S first) ∧ ((Xi S 904 70 = 15 ∨ Xi S 904 70 = 16) ∧ Xi S 904 142 = 4 → PX_mo_does_15d S first) ∧ (Xi S 904 70 = 17 → PX_mo_does_17 S first) ∧ (Xi S 904 70 = 18 → PX_mo_does_18 S first) ∧ (Xi S 904 70 = 19 → PX_mo_does_19 S first) ∧ (Xi S 904 70 = 20 → PX_mo_does_20 S first)
def DKQ (S S1 : sS) (first : Int) : Prop := (Xi S 904 70 = 0 → QX_mo_does_0 S S1 first) ∧ (Xi S 904 70 = 1 → QX_mo_does_1 S S1 first) ∧ (Xi S 904 70 = 2 → QX_mo_does_2 S S1 first) ∧ (3 ≤ Xi S 904 70 ∧ Xi S 904 70 ≤ 6 → QX_mo_does_3 S S1 first) ∧ (Xi S 904 70 = 7 → QX_mo_does_7 S S1 first) ∧ (Xi S 904 70 = 8 → QX_mo_does_8 S S1 first) ∧ (Xi S 904 70 = 9 → QX_mo_does_9 S S1 first) ∧ (Xi S 904 70 = 10 → QX_mo_does_10 S S1 first) ∧ (Xi S 904 70 = 11 → QX_mo_does_11 S S1 first) ∧ (Xi S 904 70 = 12 → QX_mo_does_12 S S1 first) ∧ (Xi S 904 70 = 13 → QX_mo_does_13 S S1 first) ∧ (Xi S 904 70 = 14 → QX_mo_does_14 S S1 first) ∧ ((Xi S 904 70 = 15 ∨ Xi S 904 70 = 16) ∧ Xi S 904 142 = 1 → QX_mo_does_15a S S1 first) ∧ ((Xi S 904 70 = 15 ∨ Xi S 904 70 = 16) ∧ Xi S 904 142 = 2 → QX_mo_does_15b S S1 first) ∧ ((Xi S 904 70 = 15 ∨ Xi S 904 70 = 16) ∧ Xi S 904 142 = 3 → QX_mo_does_15c S S1 first) ∧ ((Xi S 904 70 = 15 ∨ Xi S 904 70 = 16) ∧ Xi S 904 142 = 4 → QX_mo_does_15d S S1 first) ∧ (Xi S 904 70 = 17 → QX_mo_does_17 S S1 first) ∧ (Xi S 904 70 = 18 → QX_mo_does_18 S S1 first) ∧ (Xi S 904 70 = 19 → QX_mo_does_19 S S1 first) ∧ (Xi S 904 70 = 20 → QX_mo_does_20 S S1 first)
abbrev Q_mo_does__a (S : sS) (first : Int) : pst := fun r S1 => RI S1 ∧ FR md_mo_does__a S S1 ∧ (r = none ∧ (DKQ S S1 first))
theorem t_mo_does__a {S : sS} (hH : RI S) (first : Int) (hfirst : 0 ≤ first ∧ first ≤ 5001) (hp : DKP S first) (d : Nat) : Mp lay0 (d + 8) m_mo_does [.ref 904, iv first] S (Q_mo_does__a S first) := by
  have hr := hp.1
  have hc : (Xi S 904 70 = 0) ∨ (Xi S 904 70 = 1) ∨ (Xi S 904 70 = 2) ∨ (3 ≤ Xi S 904 70 ∧ Xi S 904 70 ≤ 6) ∨ (Xi S 904 70 = 7) ∨ (Xi S 904 70 = 8) ∨ (Xi S 904 70 = 9) ∨ (Xi S 904 70 = 10) ∨ (Xi S 904 70 = 11) ∨ (Xi S 904 70 = 12) ∨ (Xi S 904 70 = 13) ∨ (Xi S 904 70 = 14) ∨ ((Xi S 904 70 = 15 ∨ Xi S 904 70 = 16) ∧ Xi S 904 142 = 1) ∨ ((Xi S 904 70 = 15 ∨ Xi S 904 70 = 16) ∧ Xi S 904 142 = 2) ∨ ((Xi S 904 70 = 15 ∨ Xi S 904 70 = 16) ∧ Xi S 904 142 = 3) ∨ ((Xi S 904 70 = 15 ∨ Xi S 904 70 = 16) ∧ Xi S 904 142 = 4) ∨ (Xi S 904 70 = 17) ∨ (Xi S 904 70 = 18) ∨ (Xi S 904 70 = 19) ∨ (Xi S 904 70 = 20) := by
    clear hp
    omega
  rcases hc with c | c | c | c | c | c | c | c | c | c | c | c | c | c | c | c | c | c | c | c
  · have hq := hp.2.1 c
    clear hp
    refine Mp_w (a_mo_does_0 hH first hfirst hq d) (fun r S1 h => ?_)
    clear hq
    exact ⟨h.1, h.2.1, h.2.2.1, fun _ => h.2.2.2, fun q => absurd q (by omega), fun q => absurd q (by omega), fun q => absurd q (by omega), fun q => absurd q (by omega), fun q => absurd q (by omega), fun q => absurd q (by omega), fun q => absurd q (by omega), fun q => absurd q (by omega), fun q => absurd q (by omega), fun q => absurd q (by omega), fun q => absurd q (by omega), fun q => absurd q (by omega), fun q => absurd q (by omega), fun q => absurd q (by omega), fun q => absurd q (by omega), fun q => absurd q (by omega), fun q => absurd q (by omega), fun q => absurd q (by omega), fun q => absurd q (by omega)⟩
  · have hq := hp.2.2.1 c
    clear hp
    refine Mp_w (a_mo_does_1 hH first hfirst hq d) (fun r S1 h => ?_)
    clear hq
    exact ⟨h.1, h.2.1, h.2.2.1, fun q => absurd q (by omega), fun _ => h.2.2.2, fun q => absurd q (by omega), fun q => absurd q (by omega), fun q => absurd q (by omega), fun q => absurd q (by omega), fun q => absurd q (by omega), fun q => absurd q (by omega), fun q => absurd q (by omega), fun q => absurd q (by omega), fun q => absurd q (by omega), fun q => absurd q (by omega), fun q => absurd q (by omega), fun q => absurd q (by omega), fun q => absurd q (by omega), fun q => absurd q (by omega), fun q => absurd q (by omega), fun q => absurd q (by omega), fun q => absurd q (by omega), fun q => absurd q (by omega)⟩
  · have hq := hp.2.2.2.1 c
    clear hp
    refine Mp_w (a_mo_does_2 hH first hfirst hq d) (fun r S1 h => ?_)
    clear hq
    exact ⟨h.1, h.2.1, h.2.2.1, fun q => absurd q (by omega), fun q => absurd q (by omega), fun _ => h.2.2.2, fun q => absurd q (by omega), fun q => absurd q (by omega), fun q => absurd q (by omega), fun q => absurd q (by omega), fun q => absurd q (by omega), fun q => absurd q (by omega), fun q => absurd q (by omega), fun q => absurd q (by omega), fun q => absurd q (by omega), fun q => absurd q (by omega), fun q => absurd q (by omega), fun q => absurd q (by omega), fun q => absurd q (by omega), fun q => absurd q (by omega), fun q => absurd q (by omega), fun q => absurd q (by omega), fun q => absurd q (by omega)⟩
  · have hq := hp.2.2.2.2.1 c
    clear hp
    refine Mp_w (a_mo_does_3 hH first hfirst hq d) (fun r S1 h => ?_)
    clear hq
    exact ⟨h.1, h.2.1, h.2.2.1, fun q => absurd q (by omega), fun q => absurd q (by omega), fun q => absurd q (by omega), fun _ => h.2.2.2, fun q => absurd q (by omega), fun q => absurd q (by omega), fun q => absurd q (by omega), fun q => absurd q (by omega), fun q => absurd q (by omega), fun q => absurd q (by omega), fun q => absurd q (by omega), fun q => absurd q (by omega), fun q => absurd q (by omega), fun q => absurd q (by omega), fun q => absurd q (by omega), fun q => absurd q (by omega), fun q => absurd q (by omega), fun q => absurd q (by omega), fun q => absurd q (by omega), fun q => absurd q (by omega)⟩
  · have hq := hp.2.2.2.2.2.1 c
    clear hp
    refine Mp_w (a_mo_does_7 hH first hfirst hq d) (fun r S1 h => ?_)
    clear hq
    exact ⟨h.1, h.2.1, h.2.2.1, fun q => absurd q (by omega), fun q => absurd q (by omega), fun q => absurd q (by omega), fun q => absurd q (by omega), fun _ => h.2.2.2, fun q => absurd q (by omega), fun q => absurd q (by omega), fun q => absurd q (by omega), fun q => absurd q (by omega), fun q => absurd q (by omega), fun q => absurd q (by omega), fun q => absurd q (by omega), fun q => absurd q (by omega), fun q => absurd q (by omega), fun q => absurd q (by omega), fun q => absurd q (by omega), fun q => absurd q (by omega), fun q => absurd q (by omega), fun q => absurd q (by omega), fun q => absurd q (by omega)⟩
  · have hq := hp.2.2.2.2.2.2.1 c
    clear hp
    refine Mp_w (a_mo_does_8 hH first hfirst hq d) (fun r S1 h => ?_)
    clear hq
    exact ⟨h.1, h.2.1, h.2.2.1, fun q => absurd q (by omega), fun q => absurd q (by omega), fun q => absurd q (by omega), fun q => absurd q (by omega), fun q => absurd q (by omega), fun _ => h.2.2.2, fun q => absurd q (by omega), fun q => absurd q (by omega), fun q => absurd q (by omega), fun q => absurd q (by omega), fun q => absurd q (by omega), fun q => absurd q (by omega), fun q => absurd q (by omega), fun q => absurd q (by omega), fun q => absurd q (by omega), fun q => absurd q (by omega), fun q => absurd q (by omega), fun q => absurd q (by omega), fun q => absurd q (by omega), fun q => absurd q (by omega)⟩
  · have hq := hp.2.2.2.2.2.2.2.1 c
    clear hp
    refine Mp_w (a_mo_does_9 hH first hfirst hq d) (fun r S1 h => ?_)
    clear hq
    exact ⟨h.1, h.2.1, h.2.2.1, fun q => absurd q (by omega), fun q => absurd q (by omega), fun q => absurd q (by omega), fun q => absurd q (by omega), fun q => absurd q (by omega), fun q => absurd q (by omega), fun _ => h.2.2.2, fun q => absurd q (by omega), fun q => absurd q (by omega), fun q => absurd q (by omega), fun q => absurd q (by omega), fun q => absurd q (by omega), fun q => absurd q (by omega), fun q => absurd q (by omega), fun q => absurd q (by omega), fun q => absurd q (by omega), fun q => absurd q (by omega), fun q => absurd q (by omega), fun q => absurd q (by omega), fun q => absurd q (by omega)⟩
  · have hq := hp.2.2.2.2.2.2.2.2.1 c
    clear hp
    refine Mp_w (a_mo_does_10 hH first hfirst hq d) (fun r S1 h => ?_)
    clear hq
    exact ⟨h.1, h.2.1, h.2.2.1, fun q => absurd q (by omega), fun q => absurd q (by omega), fun q => absurd q (by omega), fun q => absurd q (by omega), fun q => absurd q (by omega), fun q => absurd q (by omega), fun q => absurd q (by omega), fun _ => h.2.2.2, fun q => absurd q (by omega), fun q => absurd q (by omega), fun q => absurd q (by omega), fun q => absurd q (by omega), fun q => absurd q (by omega), fun q => absurd q (by omega), fun q => absurd q (by omega), fun q => absurd q (by omega), fun q => absurd q (by omega), fun q => absurd q (by omega), fun q => absurd q (by omega), fun q => absurd q (by omega)⟩
  · have hq := hp.2.2.2.2.2.2.2.2.2.1 c
    clear hp
    refine Mp_w (a_mo_does_11 hH first hfirst hq d) (fun r S1 h => ?_)
    clear hq
    exact ⟨h.1, h.2.1, h.2.2.1, fun q => absurd q (by omega), fun q => absurd q (by omega), fun q => absurd q (by omega), fun q => absurd q (by omega), fun q => absurd q (by omega), fun q => absurd q (by omega), fun q => absurd q (by omega), fun q => absurd q (by omega), fun _ => h.2.2.2, fun q => absurd q (by omega), fun q => absurd q (by omega), fun q => absurd q (by omega), fun q => absurd q (by omega), fun q => absurd q (by omega), fun q => absurd q (by omega), fun q => absurd q (by omega), fun q => absurd q (by omega), fun q => absurd q (by omega), fun q => absurd q (by omega), fun q => absurd q (by omega)⟩
  · have hq := hp.2.2.2.2.2.2.2.2.2.2.1 c
    clear hp
    refine Mp_w (a_mo_does_12 hH first hfirst hq d) (fun r S1 h => ?_)
    clear hq
    exact ⟨h.1, h.2.1, h.2.2.1, fun q => absurd q (by omega), fun q => absurd q (by omega), fun q => absurd q (by omega), fun q => absurd q (by omega), fun q => absurd q (by omega), fun q => absurd q (by omega), fun q => absurd q (by omega), fun q => absurd q (by omega), fun q => absurd q (by omega), fun _ => h.2.2.2, fun q => absurd q (by omega), fun q => absurd q (by omega), fun q => absurd q (by omega), fun q => absurd q (by omega), fun q => absurd q (by omega), fun q => absurd q (by omega), fun q => absurd q (by omega), fun q => absurd q (by omega), fun q => absurd q (by omega), fun q => absurd q (by omega)⟩
  · have hq := hp.2.2.2.2.2.2.2.2.2.2.2.1 c
    clear hp
    refine Mp_w (a_mo_does_13 hH first hfirst hq d) (fun r S1 h => ?_)
    clear hq
    exact ⟨h.1, h.2.1, h.2.2.1, fun q => absurd q (by omega), fun q => absurd q (by omega), fun q => absurd q (by omega), fun q => absurd q (by omega), fun q => absurd q (by omega), fun q => absurd q (by omega), fun q => absurd q (by omega), fun q => absurd q (by omega), fun q => absurd q (by omega), fun q => absurd q (by omega), fun _ => h.2.2.2, fun q => absurd q (by omega), fun q => absurd q (by omega), fun q => absurd q (by omega), fun q => absurd q (by omega), fun q => absurd q (by omega), fun q => absurd q (by omega), fun q => absurd q (by omega), fun q => absurd q (by omega), fun q => absurd q (by omega)⟩
  · have hq := hp.2.2.2.2.2.2.2.2.2.2.2.2.1 c
    clear hp
    refine Mp_w (a_mo_does_14 hH first hfirst hq d) (fun r S1 h => ?_)
    clear hq
    exact ⟨h.1, h.2.1, h.2.2.1, fun q => absurd q (by omega), fun q => absurd q (by omega), fun q => absurd q (by omega), fun q => absurd q (by omega), fun q => absurd q (by omega), fun q => absurd q (by omega), fun q => absurd q (by omega), fun q => absurd q (by omega), fun q => absurd q (by omega), fun q => absurd q (by omega), fun q => absurd q (by omega), fun _ => h.2.2.2, fun q => absurd q (by omega), fun q => absurd q (by omega), fun q => absurd q (by omega), fun q => absurd q (by omega), fun q => absurd q (by omega), fun q => absurd q (by omega), fun q => absurd q (by omega), fun q => absurd q (by omega)⟩
  · have hq := hp.2.2.2.2.2.2.2.2.2.2.2.2.2.1 c
    clear hp
    refine Mp_w (a_mo_does_15a hH first hfirst hq d) (fun r S1 h => ?_)
    clear hq
    exact ⟨h.1, h.2.1, h.2.2.1, fun q => absurd q (by omega), fun q => absurd q (by omega), fun q => absurd q (by omega), fun q => absurd q (by omega), fun q => absurd q (by omega), fun q => absurd q (by omega), fun q => absurd q (by omega), fun q => absurd q (by omega), fun q => absurd q (by omega), fun q => absurd q (by omega), fun q => absurd q (by omega), fun q => absurd q (by omega), fun _ => h.2.2.2, fun q => absurd q (by omega), fun q => absurd q (by omega), fun q => absurd q (by omega), fun q => absurd q (by omega), fun q => absurd q (by omega), fun q => absurd q (by omega), fun q => absurd q (by omega)⟩
  · have hq := hp.2.2.2.2.2.2.2.2.2.2.2.2.2.2.1 c
    clear hp
    refine Mp_w (a_mo_does_15b hH first hfirst hq d) (fun r S1 h => ?_)
    clear hq
    exact ⟨h.1, h.2.1, h.2.2.1, fun q => absurd q (by omega), fun q => absurd q (by omega), fun q => absurd q (by omega), fun q => absurd q (by omega), fun q => absurd q (by omega), fun q => absurd q (by omega), fun q => absurd q (by omega), fun q => absurd q (by omega), fun q => absurd q (by omega), fun q => absurd q (by omega), fun q => absurd q (by omega), fun q => absurd q (by omega), fun q => absurd q (by omega), fun _ => h.2.2.2, fun q => absurd q (by omega), fun q => absurd q (by omega), fun q => absurd q (by omega), fun q => absurd q (by omega), fun q => absurd q (by omega), fun q => absurd q (by omega)⟩
  · have hq := hp.2.2.2.2.2.2.2.2.2.2.2.2.2.2.2.1 c
    clear hp
    refine Mp_w (a_mo_does_15c hH first hfirst hq d) (fun r S1 h => ?_)
    clear hq
    exact ⟨h.1, h.2.1, h.2.2.1, fun q => absurd q (by omega), fun q => absurd q (by omega), fun q => absurd q (by omega), fun q => absurd q (by omega), fun q => absurd q (by omega), fun q => absurd q (by omega), fun q => absurd q (by omega), fun q => absurd q (by omega), fun q => absurd q (by omega), fun q => absurd q (by omega), fun q => absurd q (by omega), fun q => absurd q (by omega), fun q => absurd q (by omega), fun q => absurd q (by omega), fun _ => h.2.2.2, fun q => absurd q (by omega), fun q => absurd q (by omega), fun q => absurd q (by omega), fun q => absurd q (by omega), fun q => absurd q (by omega)⟩
  · have hq := hp.2.2.2.2.2.2.2.2.2.2.2.2.2.2.2.2.1 c
    clear hp
    refine Mp_w (a_mo_does_15d hH first hfirst hq d) (fun r S1 h => ?_)
    clear hq
    exact ⟨h.1, h.2.1, h.2.2.1, fun q => absurd q (by omega), fun q => absurd q (by omega), fun q => absurd q (by omega), fun q => absurd q (by omega), fun q => absurd q (by omega), fun q => absurd q (by omega), fun q => absurd q (by omega), fun q => absurd q (by omega), fun q => absurd q (by omega), fun q => absurd q (by omega), fun q => absurd q (by omega), fun q => absurd q (by omega), fun q => absurd q (by omega), fun q => absurd q (by omega), fun q => absurd q (by omega), fun _ => h.2.2.2, fun q => absurd q (by omega), fun q => absurd q (by omega), fun q => absurd q (by omega), fun q => absurd q (by omega)⟩
  · have hq := hp.2.2.2.2.2.2.2.2.2.2.2.2.2.2.2.2.2.1 c
    clear hp
    refine Mp_w (a_mo_does_17 hH first hfirst hq d) (fun r S1 h => ?_)
    clear hq
    exact ⟨h.1, h.2.1, h.2.2.1, fun q => absurd q (by omega), fun q => absurd q (by omega), fun q => absurd q (by omega), fun q => absurd q (by omega), fun q => absurd q (by omega), fun q => absurd q (by omega), fun q => absurd q (by omega), fun q => absurd q (by omega), fun q => absurd q (by omega), fun q => absurd q (by omega), fun q => absurd q (by omega), fun q => absurd q (by omega), fun q => absurd q (by omega), fun q => absurd q (by omega), fun q => absurd q (by omega), fun q => absurd q (by omega), fun _ => h.2.2.2, fun q => absurd q (by omega), fun q => absurd q (by omega), fun q => absurd q (by omega)⟩
  · have hq := hp.2.2.2.2.2.2.2.2.2.2.2.2.2.2.2.2.2.2.1 c
    clear hp
    refine Mp_w (a_mo_does_18 hH first hfirst hq d) (fun r S1 h => ?_)
    clear hq
    exact ⟨h.1, h.2.1, h.2.2.1, fun q => absurd q (by omega), fun q => absurd q (by omega), fun q => absurd q (by omega), fun q => absurd q (by omega), fun q => absurd q (by omega), fun q => absurd q (by omega), fun q => absurd q (by omega), fun q => absurd q (by omega), fun q => absurd q (by omega), fun q => absurd q (by omega), fun q => absurd q (by omega), fun q => absurd q (by omega), fun q => absurd q (by omega), fun q => absurd q (by omega), fun q => absurd q (by omega), fun q => absurd q (by omega), fun q => absurd q (by omega), fun _ => h.2.2.2, fun q => absurd q (by omega), fun q => absurd q (by omega)⟩
  · have hq := hp.2.2.2.2.2.2.2.2.2.2.2.2.2.2.2.2.2.2.2.1 c
    clear hp
    refine Mp_w (a_mo_does_19 hH first hfirst hq d) (fun r S1 h => ?_)
    clear hq
    exact ⟨h.1, h.2.1, h.2.2.1, fun q => absurd q (by omega), fun q => absurd q (by omega), fun q => absurd q (by omega), fun q => absurd q (by omega), fun q => absurd q (by omega), fun q => absurd q (by omega), fun q => absurd q (by omega), fun q => absurd q (by omega), fun q => absurd q (by omega), fun q => absurd q (by omega), fun q => absurd q (by omega), fun q => absurd q (by omega), fun q => absurd q (by omega), fun q => absurd q (by omega), fun q => absurd q (by omega), fun q => absurd q (by omega), fun q => absurd q (by omega), fun q => absurd q (by omega), fun _ => h.2.2.2, fun q => absurd q (by omega)⟩
  · have hq := hp.2.2.2.2.2.2.2.2.2.2.2.2.2.2.2.2.2.2.2.2 c
    clear hp
    refine Mp_w (a_mo_does_20 hH first hfirst hq d) (fun r S1 h => ?_)
    clear hq
    exact ⟨h.1, h.2.1, h.2.2.1, fun q => absurd q (by omega), fun q => absurd q (by omega), fun q => absurd q (by omega), fun q => absurd q (by omega), fun q => absurd q (by omega), fun q => absurd q (by omega), fun q => absurd q (by omega), fun q => absurd q (by omega), fun q => absurd q (by omega), fun q => absurd q (by omega), fun q => absurd q (by omega), fun q => absurd q (by omega), fun q => absurd q (by omega), fun q => absurd q (by omega), fun q => absurd q (by omega), fun q => absurd q (by omega), fun q => absurd q (by omega), fun q => absurd q (by omega), fun q => absurd q (by omega), fun _ => h.2.2.2⟩
end
