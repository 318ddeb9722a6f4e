/-! SAFETY of methods: printed by wip/safe (vc.py, decl.py) -/
set_option maxRecDepth 100000 in
set_option maxHeartbeats 16000000 in
theorem c366_mo_phraseMeant {S : sS} (hH : HI S) (n : Nat) (i : Int) (q : Int) (p : Int) (hi : 0 ≤ i ∧ i ≤ 1699) (hq : 0 ≤ q ∧ q ≤ 2399) (hp : 0 ≤ p ∧ p ≤ 1999) (hT : TK S n) (hv : RNV S n) (hM : LXM S) (hB : ABV S) (hC : DCM S) (hK : TXK S n) (hX : TXM S) (hit : Xi S 904 115 = -1) (hpv : PV S n i.toNat) (h64 : Xi S 964 i.toNat ≤ 1699) (d : Nat) : ∀  (T32 : sS) (_ : HI T32) (_ : FR md_mo_phraseMeant S T32) (v4 : Int) (v5 : Int), (0 ≤ v4 ∧ v4 ≤ 1699) → (0 ≤ v5 ∧ v5 ≤ 2600) → (KQ T32 S q) → (KH T32 S p) → (Xi T32 976 (p).toNat = 5) → (Xi T32 977 (p).toNat = q) → (Xi S 904 106 ≠ 0 → Xi T32 904 106 ≠ 0) → (Xi T32 904 69 = Xi S 904 69) → (Xi T32 904 115 = -1) → (v4 = Xi S 964 (i).toNat) → (Xi S 963 (i).toNat = 5) → (Xi S 953 (Xi S 964 (i).toNat).toNat ≠ 0) → (v5 = Xi S 956 (Xi S 964 (i).toNat).toNat) → (v5 < Xi S 904 69) → Rl lay0 (d + 7) m_mo_phraseMeant 366 [(0, .ref 904), (2, iv q), (4, iv v4), (5, iv v5)] [] T32 (Q_mo_phraseMeant S n i q p) := by
  have C409 := c409_mo_phraseMeant hH n i q p hi hq hp hT hv hM hB hC hK hX hit hpv h64 d 
  have hF : FR md_mo_phraseMeant S S := FR.rf
  have w1 : 0 ≤ Xi S 904 106 ∧ Xi S 904 106 ≤ 9 := hH.c _ _
  have w2 : -1 ≤ Xi S 904 115 ∧ Xi S 904 115 ≤ 15 := hH.c _ _
  have w3 : -1 ≤ Xi S 904 116 ∧ Xi S 904 116 ≤ 15 := hH.c _ _
  have w4 : 0 ≤ Xi S 904 128 ∧ Xi S 904 128 ≤ 11 := hH.c _ _
  have w5 : -1 ≤ Xi S 904 129 ∧ Xi S 904 129 ≤ 23 := hH.c _ _
  have w6 : 0 ≤ Xi S 904 19 ∧ Xi S 904 19 ≤ 24 := hH.c _ _
  have w7 : 0 ≤ Xi S 904 49 ∧ Xi S 904 49 ≤ 12 := hH.c _ _
  have w8 : 0 ≤ Xi S 904 69 ∧ Xi S 904 69 ≤ 2600 := hH.c _ _
  have hn5 := hT.1
  have hc69 : 0 ≤ Xi S 904 69 ∧ Xi S 904 69 ≤ 2600 := hH.c _ _
  have hc19 : 0 ≤ Xi S 904 19 ∧ Xi S 904 19 ≤ 24 := hH.c _ _
  have hc32 : 0 ≤ Xi S 904 32 ∧ Xi S 904 32 ≤ 12 := hH.c _ _
  have hc49 : 0 ≤ Xi S 904 49 ∧ Xi S 904 49 ≤ 12 := hH.c _ _
  have h963 : 0 ≤ Xi S 963 (i).toNat ∧ Xi S 963 (i).toNat ≤ 6 := hH.c 963 _
  have h964 : 0 ≤ Xi S 964 (i).toNat := (hH.c 964 (i).toNat).1
  have hp : PVt S n (Xi S 963 (i).toNat) (Xi S 964 (i).toNat).toNat := hpv
  have hrf : ∀ r : Int, 0 ≤ r → r < Xi S 904 69 → Xi S 950 r.toNat + Xi S 951 r.toNat ≤ n ∧ 1 ≤ Xi S 951 r.toNat := fun r a b => hv r.toNat (by omega)
  have h956 : 0 ≤ Xi S 956 (Xi S 964 (i).toNat).toNat := (hH.c 956 _).1
  intro T32 hHT32 hFT32 v4 v5 w538 w539 K366 P366 w540 w541 w542 w543 w544 w545 w546 w547 w548 w549
  have w550 : Xi T32 904 115 = Xi S 904 115 := hFT32.x _ _ rfl
  have w551 : Xi T32 904 116 = Xi S 904 116 := hFT32.x _ _ rfl
  have w552 : Xi T32 904 19 = Xi S 904 19 := hFT32.x _ _ rfl
  have w553 : Xi T32 904 32 = Xi S 904 32 := hFT32.x _ _ rfl
  have w554 : Xi T32 904 49 = Xi S 904 49 := hFT32.x _ _ rfl
  have w555 : Xi T32 904 69 = Xi S 904 69 := hFT32.x _ _ rfl
  have w556 : 0 ≤ Xi T32 904 106 ∧ Xi T32 904 106 ≤ 9 := hHT32.c _ _
  have w557 : -1 ≤ Xi T32 904 115 ∧ Xi T32 904 115 ≤ 15 := hHT32.c _ _
  have w558 : 0 ≤ Xi T32 904 69 ∧ Xi T32 904 69 ≤ 2600 := hHT32.c _ _
  refine l_aload_n rfl rfl ?_
  refine l_iload rfl rfl ?_
  refine l_bipush rfl rfl ?_
  refine l_callV rfl rfl rfl (t_mo_meansRun__2 hHT32 n v5 11 ⟨by omega, by omega⟩ ⟨by omega, by omega⟩ (by first | assumption | exact (TK_FR hFT32 rfl (by assumption : TK S _))) (by first | assumption | exact (RNV_FR hFT32 rfl (by assumption : RNV S _))) (by first | assumption | omega) (by first | assumption | exact (LXM_FR hFT32 rfl (by assumption : LXM S))) _) ?_
  rintro _ _ ⟨rfl, z566, rfl, w566, w564, w565⟩
  show Rl _ _ _ _ _ [iv z566] _ _
  have x371 : z566 ≠ -1 → z566 < Xi S 904 49 := fun q => by have t := (by assumption : z566 ≠ -1 → z566 < cM T32 11) q; rw [cM11, hFT32.x 904 49 rfl] at t; exact t
  refine l_istore rfl rfl rfl ?_
  refine l_aload_n rfl rfl ?_
  refine l_iload rfl rfl ?_
  refine l_iconst rfl ?_
  refine l_icmp_eq rfl rfl (by unfold rg; omega) (by unfold rg; omega) (fun w567 => ?_) (fun w568 => ?_)
  · refine l_iconst rfl ?_
    refine l_iconst rfl ?_
    refine l_aload_n rfl rfl ?_
    refine l_gfr rfl rfl rfl rfl rfl (hHT32.r 904 67 950 rfl) ?_
    refine l_iload rfl rfl ?_
    refine l_iaload (n := 2600) rfl rfl (by omega) (by omega) (by unfold rg; omega) ?_
    have w569 : 0 ≤ (Xi T32 950 ((v5).toNat)) ∧ (Xi T32 950 ((v5).toNat)) ≤ 5010 := hHT32.c _ _
    have e405 : (Xi T32 950 ((v5).toNat)) = Xi S 950 (Xi S 956 (Xi S 964 (i).toNat).toNat).toNat := by rw [(hFT32.cx 950 rfl _).1]; exact congrArg (fun t : Int => Xi S 950 t.toNat) (by omega)
    have g405 := hrf (Xi S 956 (Xi S 964 (i).toNat).toNat) (by omega) (hp.2.2.2.2.1 (by omega))
    refine l_callV rfl rfl rfl (t_mo_need hHT32 0 4 (Xi T32 950 ((v5).toNat)) ⟨by omega, by omega⟩ ⟨by omega, by omega⟩ ⟨by omega, by omega⟩ _) ?_
    rintro _ T33 ⟨hHT33, w578, rfl, w575, w576⟩
    have hFT33 : FR md_mo_phraseMeant S T33 := FR.tr hFT32 w578 rfl
    show Rl _ _ _ _ _ [] _ _
    have w579 : Xi T33 970 (q).toNat = Xi T32 970 (q).toNat := (show Xi T33 970 (q).toNat = Xi T32 970 (q).toNat from (w578.cx 970 rfl _).1)
    have w580 : Xi T33 971 (q).toNat = Xi T32 971 (q).toNat := (show Xi T33 971 (q).toNat = Xi T32 971 (q).toNat from (w578.cx 971 rfl _).1)
    have w581 : Xi T33 972 (q).toNat = Xi T32 972 (q).toNat := (show Xi T33 972 (q).toNat = Xi T32 972 (q).toNat from (w578.cx 972 rfl _).1)
    have w582 : Xi T33 973 (q).toNat = Xi T32 973 (q).toNat := (show Xi T33 973 (q).toNat = Xi T32 973 (q).toNat from (w578.cx 973 rfl _).1)
    have w583 : Xi T33 974 (q).toNat = Xi T32 974 (q).toNat := (show Xi T33 974 (q).toNat = Xi T32 974 (q).toNat from (w578.cx 974 rfl _).1)
    have w584 : Xi T33 975 (q).toNat = Xi T32 975 (q).toNat := (show Xi T33 975 (q).toNat = Xi T32 975 (q).toNat from (w578.cx 975 rfl _).1)
    have w585 : Xi T33 976 (p).toNat = Xi T32 976 (p).toNat := (show Xi T33 976 (p).toNat = Xi T32 976 (p).toNat from (w578.cx 976 rfl _).1)
    have w586 : Xi T33 977 (p).toNat = Xi T32 977 (p).toNat := (show Xi T33 977 (p).toNat = Xi T32 977 (p).toNat from (w578.cx 977 rfl _).1)
    have w587 : 0 ≤ Xi T33 904 106 ∧ Xi T33 904 106 ≤ 9 := hHT33.c _ _
    have w588 : Xi T33 904 115 = Xi T32 904 115 := (show Xi T33 904 115 = Xi T32 904 115 from w578.x _ _ rfl)
    have w590 : Xi T33 904 128 = Xi T32 904 128 := (show Xi T33 904 128 = Xi T32 904 128 from w578.x _ _ rfl)
    have w591 : 0 ≤ Xi T32 904 128 ∧ Xi T32 904 128 ≤ 11 := hHT32.c _ _
    have w592 : Xi T33 904 129 = Xi T32 904 129 := (show Xi T33 904 129 = Xi T32 904 129 from w578.x _ _ rfl)
    have w593 : -1 ≤ Xi T32 904 129 ∧ Xi T32 904 129 ≤ 23 := hHT32.c _ _
    have w594 : Xi T33 904 69 = Xi T32 904 69 := (show Xi T33 904 69 = Xi T32 904 69 from w578.x _ _ rfl)
    exact Rl_weak (C409 T33 hHT33 hFT33 (v4) (z566) (by omega) (by omega) ((KQ_FR w578 rfl (by assumption : KQ T32 S _))) ((KH_FR w578 rfl (by assumption : KH T32 _ _))) (by omega) (by omega) (by omega) (by omega) (by omega) (by omega) (by omega) (by omega) (by omega) (by omega)) (And.intro rfl (And.intro rfl (And.intro rfl (And.intro rfl (True.intro)))))
  · refine l_aload_n rfl rfl ?_
    refine l_gfr rfl rfl rfl rfl rfl (hHT32.r 904 50 942 rfl) ?_
    refine l_iload rfl rfl ?_
    refine l_iaload (n := 12) rfl rfl (by omega) (by omega) (by unfold rg; omega) ?_
    have w596 : -2 ≤ (Xi T32 942 ((z566).toNat)) ∧ (Xi T32 942 ((z566).toNat)) ≤ 15 := hHT32.c _ _
    have e389 : (Xi T32 942 ((z566).toNat)) = Xi S 942 (z566).toNat := by first | rfl | exact (hFT32.cx 942 rfl _).1
    refine l_if_lt rfl rfl (by unfold rg; omega) (fun w597 => ?_) (fun w598 => ?_)
    · refine l_iconst rfl ?_
      refine l_iconst rfl ?_
      refine l_aload_n rfl rfl ?_
      refine l_gfr rfl rfl rfl rfl rfl (hHT32.r 904 67 950 rfl) ?_
      refine l_iload rfl rfl ?_
      refine l_iaload (n := 2600) rfl rfl (by omega) (by omega) (by unfold rg; omega) ?_
      have w599 : 0 ≤ (Xi T32 950 ((v5).toNat)) ∧ (Xi T32 950 ((v5).toNat)) ≤ 5010 := hHT32.c _ _
      have e405 : (Xi T32 950 ((v5).toNat)) = Xi S 950 (Xi S 956 (Xi S 964 (i).toNat).toNat).toNat := by rw [(hFT32.cx 950 rfl _).1]; exact congrArg (fun t : Int => Xi S 950 t.toNat) (by omega)
      have g405 := hrf (Xi S 956 (Xi S 964 (i).toNat).toNat) (by omega) (hp.2.2.2.2.1 (by omega))
      refine l_callV rfl rfl rfl (t_mo_need hHT32 0 4 (Xi T32 950 ((v5).toNat)) ⟨by omega, by omega⟩ ⟨by omega, by omega⟩ ⟨by omega, by omega⟩ _) ?_
      rintro _ T34 ⟨hHT34, w608, rfl, w605, w606⟩
      have hFT34 : FR md_mo_phraseMeant S T34 := FR.tr hFT32 w608 rfl
      show Rl _ _ _ _ _ [] _ _
      have w609 : Xi T34 970 (q).toNat = Xi T32 970 (q).toNat := (show Xi T34 970 (q).toNat = Xi T32 970 (q).toNat from (w608.cx 970 rfl _).1)
      have w610 : Xi T34 971 (q).toNat = Xi T32 971 (q).toNat := (show Xi T34 971 (q).toNat = Xi T32 971 (q).toNat from (w608.cx 971 rfl _).1)
      have w611 : Xi T34 972 (q).toNat = Xi T32 972 (q).toNat := (show Xi T34 972 (q).toNat = Xi T32 972 (q).toNat from (w608.cx 972 rfl _).1)
      have w612 : Xi T34 973 (q).toNat = Xi T32 973 (q).toNat := (show Xi T34 973 (q).toNat = Xi T32 973 (q).toNat from (w608.cx 973 rfl _).1)
      have w613 : Xi T34 974 (q).toNat = Xi T32 974 (q).toNat := (show Xi T34 974 (q).toNat = Xi T32 974 (q).toNat from (w608.cx 974 rfl _).1)
      have w614 : Xi T34 975 (q).toNat = Xi T32 975 (q).toNat := (show Xi T34 975 (q).toNat = Xi T32 975 (q).toNat from (w608.cx 975 rfl _).1)
      have w615 : Xi T34 976 (p).toNat = Xi T32 976 (p).toNat := (show Xi T34 976 (p).toNat = Xi T32 976 (p).toNat from (w608.cx 976 rfl _).1)
      have w616 : Xi T34 977 (p).toNat = Xi T32 977 (p).toNat := (show Xi T34 977 (p).toNat = Xi T32 977 (p).toNat from (w608.cx 977 rfl _).1)
      have w617 : 0 ≤ Xi T34 904 106 ∧ Xi T34 904 106 ≤ 9 := hHT34.c _ _
      have w618 : Xi T34 904 115 = Xi T32 904 115 := (show Xi T34 904 115 = Xi T32 904 115 from w608.x _ _ rfl)
      have w620 : Xi T34 904 128 = Xi T32 904 128 := (show Xi T34 904 128 = Xi T32 904 128 from w608.x _ _ rfl)
      have w621 : 0 ≤ Xi T32 904 128 ∧ Xi T32 904 128 ≤ 11 := hHT32.c _ _
      have w622 : Xi T34 904 129 = Xi T32 904 129 := (show Xi T34 904 129 = Xi T32 904 129 from w608.x _ _ rfl)
      have w623 : -1 ≤ Xi T32 904 129 ∧ Xi T32 904 129 ≤ 23 := hHT32.c _ _
      have w624 : Xi T34 904 69 = Xi T32 904 69 := (show Xi T34 904 69 = Xi T32 904 69 from w608.x _ _ rfl)
      exact Rl_weak (C409 T34 hHT34 hFT34 (v4) (z566) (by omega) (by omega) ((KQ_FR w608 rfl (by assumption : KQ T32 S _))) ((KH_FR w608 rfl (by assumption : KH T32 _ _))) (by omega) (by omega) (by omega) (by omega) (by omega) (by omega) (by omega) (by omega) (by omega) (by omega)) (And.intro rfl (And.intro rfl (And.intro rfl (And.intro rfl (True.intro)))))
    · refine l_iconst rfl ?_
      refine l_goto rfl rfl ?_
      refine l_iconst rfl ?_
      refine l_aload_n rfl rfl ?_
      refine l_gfr rfl rfl rfl rfl rfl (hHT32.r 904 67 950 rfl) ?_
      refine l_iload rfl rfl ?_
      refine l_iaload (n := 2600) rfl rfl (by omega) (by omega) (by unfold rg; omega) ?_
      have w626 : 0 ≤ (Xi T32 950 ((v5).toNat)) ∧ (Xi T32 950 ((v5).toNat)) ≤ 5010 := hHT32.c _ _
      have e405 : (Xi T32 950 ((v5).toNat)) = Xi S 950 (Xi S 956 (Xi S 964 (i).toNat).toNat).toNat := by rw [(hFT32.cx 950 rfl _).1]; exact congrArg (fun t : Int => Xi S 950 t.toNat) (by omega)
      have g405 := hrf (Xi S 956 (Xi S 964 (i).toNat).toNat) (by omega) (hp.2.2.2.2.1 (by omega))
      refine l_callV rfl rfl rfl (t_mo_need hHT32 1 4 (Xi T32 950 ((v5).toNat)) ⟨by omega, by omega⟩ ⟨by omega, by omega⟩ ⟨by omega, by omega⟩ _) ?_
      rintro _ T35 ⟨hHT35, w635, rfl, w632, w633⟩
      have hFT35 : FR md_mo_phraseMeant S T35 := FR.tr hFT32 w635 rfl
      show Rl _ _ _ _ _ [] _ _
      have w636 : Xi T35 970 (q).toNat = Xi T32 970 (q).toNat := (show Xi T35 970 (q).toNat = Xi T32 970 (q).toNat from (w635.cx 970 rfl _).1)
      have w637 : Xi T35 971 (q).toNat = Xi T32 971 (q).toNat := (show Xi T35 971 (q).toNat = Xi T32 971 (q).toNat from (w635.cx 971 rfl _).1)
      have w638 : Xi T35 972 (q).toNat = Xi T32 972 (q).toNat := (show Xi T35 972 (q).toNat = Xi T32 972 (q).toNat from (w635.cx 972 rfl _).1)
      have w639 : Xi T35 973 (q).toNat = Xi T32 973 (q).toNat := (show Xi T35 973 (q).toNat = Xi T32 973 (q).toNat from (w635.cx 973 rfl _).1)
      have w640 : Xi T35 974 (q).toNat = Xi T32 974 (q).toNat := (show Xi T35 974 (q).toNat = Xi T32 974 (q).toNat from (w635.cx 974 rfl _).1)
      have w641 : Xi T35 975 (q).toNat = Xi T32 975 (q).toNat := (show Xi T35 975 (q).toNat = Xi T32 975 (q).toNat from (w635.cx 975 rfl _).1)
      have w642 : Xi T35 976 (p).toNat = Xi T32 976 (p).toNat := (show Xi T35 976 (p).toNat = Xi T32 976 (p).toNat from (w635.cx 976 rfl _).1)
      have w643 : Xi T35 977 (p).toNat = Xi T32 977 (p).toNat := (show Xi T35 977 (p).toNat = Xi T32 977 (p).toNat from (w635.cx 977 rfl _).1)
      have w644 : 0 ≤ Xi T35 904 106 ∧ Xi T35 904 106 ≤ 9 := hHT35.c _ _
      have w645 : Xi T35 904 115 = Xi T32 904 115 := (show Xi T35 904 115 = Xi T32 904 115 from w635.x _ _ rfl)
      have w647 : Xi T35 904 128 = Xi T32 904 128 := (show Xi T35 904 128 = Xi T32 904 128 from w635.x _ _ rfl)
      have w648 : 0 ≤ Xi T32 904 128 ∧ Xi T32 904 128 ≤ 11 := hHT32.c _ _
      have w649 : Xi T35 904 129 = Xi T32 904 129 := (show Xi T35 904 129 = Xi T32 904 129 from w635.x _ _ rfl)
      have w650 : -1 ≤ Xi T32 904 129 ∧ Xi T32 904 129 ≤ 23 := hHT32.c _ _
      have w651 : Xi T35 904 69 = Xi T32 904 69 := (show Xi T35 904 69 = Xi T32 904 69 from w635.x _ _ rfl)
      exact Rl_weak (C409 T35 hHT35 hFT35 (v4) (z566) (by omega) (by omega) ((KQ_FR w635 rfl (by assumption : KQ T32 S _))) ((KH_FR w635 rfl (by assumption : KH T32 _ _))) (by omega) (by omega) (by omega) (by omega) (by omega) (by omega) (by omega) (by omega) (by omega) (by omega)) (And.intro rfl (And.intro rfl (And.intro rfl (And.intro rfl (True.intro)))))
set_option maxRecDepth 100000 in
set_option maxHeartbeats 16000000 in
theorem c499_mo_phraseMeant {S : sS} (hH : HI S) (n : Nat) (i : Int) (q : Int) (p : Int) (hi : 0 ≤ i ∧ i ≤ 1699) (hq : 0 ≤ q ∧ q ≤ 2399) (hp : 0 ≤ p ∧ p ≤ 1999) (hT : TK S n) (hv : RNV S n) (hM : LXM S) (hB : ABV S) (hC : DCM S) (hK : TXK S n) (hX : TXM S) (hit : Xi S 904 115 = -1) (hpv : PV S n i.toNat) (h64 : Xi S 964 i.toNat ≤ 1699) (d : Nat) : ∀  (T36 : sS) (_ : HI T36) (_ : FR md_mo_phraseMeant S T36) (v4 : Int) (v6 : Int), (0 ≤ v4 ∧ v4 ≤ 1699) → (0 ≤ v6 ∧ v6 ≤ 4) → (KQ T36 S q) → (KH T36 S p) → (Xi T36 976 (p).toNat = 5) → (Xi T36 977 (p).toNat = q) → (Xi S 904 106 ≠ 0 → Xi T36 904 106 ≠ 0) → (Xi T36 904 69 = Xi S 904 69) → (Xi T36 904 115 = -1) → (v4 = Xi S 964 (i).toNat) → (Xi S 963 (i).toNat = 5) → (Xi S 953 (Xi S 964 (i).toNat).toNat = 0) → (Xi T36 904 106 = 0 → 1 ≤ v6) → (1 ≤ v6 → (0 ≤ Xi T36 904 128 ∧ Xi T36 904 128 < Xi S 904 49) ∧ Xi T36 904 129 < Xi S 904 19 ∧ (Xi T36 904 129 = -1 → Xi S 942 (Xi T36 904 128).toNat < 0)) → Rl lay0 (d + 7) m_mo_phraseMeant 499 [(0, .ref 904), (2, iv q), (4, iv v4), (6, iv v6)] [] T36 (Q_mo_phraseMeant S n i q p) := by
  have C537 := c537_mo_phraseMeant hH n i q p hi hq hp hT hv hM hB hC hK hX hit hpv h64 d 
  have hF : FR md_mo_phraseMeant S S := FR.rf
  have w1 : 0 ≤ Xi S 904 106 ∧ Xi S 904 106 ≤ 9 := hH.c _ _
  have w2 : -1 ≤ Xi S 904 115 ∧ Xi S 904 115 ≤ 15 := hH.c _ _
  have w3 : -1 ≤ Xi S 904 116 ∧ Xi S 904 116 ≤ 15 := hH.c _ _
  have w4 : 0 ≤ Xi S 904 128 ∧ Xi S 904 128 ≤ 11 := hH.c _ _
  have w5 : -1 ≤ Xi S 904 129 ∧ Xi S 904 129 ≤ 23 := hH.c _ _
  have w6 : 0 ≤ Xi S 904 19 ∧ Xi S 904 19 ≤ 24 := hH.c _ _
  have w7 : 0 ≤ Xi S 904 49 ∧ Xi S 904 49 ≤ 12 := hH.c _ _
  have w8 : 0 ≤ Xi S 904 69 ∧ Xi S 904 69 ≤ 2600 := hH.c _ _
  have hn5 := hT.1
  have hc69 : 0 ≤ Xi S 904 69 ∧ Xi S 904 69 ≤ 2600 := hH.c _ _
  have hc19 : 0 ≤ Xi S 904 19 ∧ Xi S 904 19 ≤ 24 := hH.c _ _
  have hc32 : 0 ≤ Xi S 904 32 ∧ Xi S 904 32 ≤ 12 := hH.c _ _
  have hc49 : 0 ≤ Xi S 904 49 ∧ Xi S 904 49 ≤ 12 := hH.c _ _
  have h963 : 0 ≤ Xi S 963 (i).toNat ∧ Xi S 963 (i).toNat ≤ 6 := hH.c 963 _
  have h964 : 0 ≤ Xi S 964 (i).toNat := (hH.c 964 (i).toNat).1
  have hp : PVt S n (Xi S 963 (i).toNat) (Xi S 964 (i).toNat).toNat := hpv
  have hrf : ∀ r : Int, 0 ≤ r → r < Xi S 904 69 → Xi S 950 r.toNat + Xi S 951 r.toNat ≤ n ∧ 1 ≤ Xi S 951 r.toNat := fun r a b => hv r.toNat (by omega)
  have h956 : 0 ≤ Xi S 956 (Xi S 964 (i).toNat).toNat := (hH.c 956 _).1
  intro T36 hHT36 hFT36 v4 v6 w653 w654 K499 P499 w655 w656 w657 w658 w659 w660 w661 w662 w663 A499
  have w664 : Xi T36 904 115 = Xi S 904 115 := hFT36.x _ _ rfl
  have w665 : Xi T36 904 116 = Xi S 904 116 := hFT36.x _ _ rfl
  have w666 : Xi T36 904 19 = Xi S 904 19 := hFT36.x _ _ rfl
  have w667 : Xi T36 904 32 = Xi S 904 32 := hFT36.x _ _ rfl
  have w668 : Xi T36 904 49 = Xi S 904 49 := hFT36.x _ _ rfl
  have w669 : Xi T36 904 69 = Xi S 904 69 := hFT36.x _ _ rfl
  have w670 : 0 ≤ Xi T36 904 106 ∧ Xi T36 904 106 ≤ 9 := hHT36.c _ _
  have w671 : -1 ≤ Xi T36 904 115 ∧ Xi T36 904 115 ≤ 15 := hHT36.c _ _
  have w672 : 0 ≤ Xi T36 904 128 ∧ Xi T36 904 128 ≤ 11 := hHT36.c _ _
  have w673 : -1 ≤ Xi T36 904 129 ∧ Xi T36 904 129 ≤ 23 := hHT36.c _ _
  have w674 : 0 ≤ Xi T36 904 69 ∧ Xi T36 904 69 ≤ 2600 := hHT36.c _ _
  refine l_aload_n rfl rfl ?_
  refine l_gfr rfl rfl rfl rfl rfl (hHT36.r 904 121 972 rfl) ?_
  refine l_iload_n rfl rfl ?_
  refine l_iload rfl rfl ?_
  refine l_if_le rfl rfl (by unfold rg; omega) (fun w675 => ?_) (fun w676 => ?_)
  · refine l_iconst rfl ?_
    refine l_iastore (n := 2400) rfl rfl (by omega) (by omega) (by unfold rg; omega) ?_
    obtain ⟨U37, eU37⟩ : ∃ T : sS, T = uI T36 972 ((q).toNat) (Int32.ofInt 0) := ⟨_, rfl⟩
    rw [← eU37]
    have hHU37 : HI U37 := by rw [eU37]; exact HI_w hHT36 (show -1 ≤ 0 by omega) (show 0 ≤ 11 by omega)
    have hFU37 : FR md_mo_phraseMeant S U37 := by rw [eU37]; exact FR.wI hFT36 (mdf_i (r := (972, 973, 0, 100000)) (List.mem_of_getElem? (i := 15) rfl) (inR_i (by omega) (by omega) (by omega) (by omega)))
    have w677 : Xi U37 972 ((q).toNat) = 0 := by rw [eU37]; exact Xi_same (by unfold rg; omega)
    refine l_aload_n rfl rfl ?_
    refine l_gfr rfl rfl rfl rfl rfl (hHU37.r 904 120 971 rfl) ?_
    refine l_iload_n rfl rfl ?_
    refine l_iload rfl rfl ?_
    refine l_if_le rfl rfl (by unfold rg; omega) (fun w678 => ?_) (fun w679 => ?_)
    · refine l_iconst rfl ?_
      refine l_iastore (n := 2400) rfl rfl (by omega) (by omega) (by unfold rg; omega) ?_
      obtain ⟨U38, eU38⟩ : ∃ T : sS, T = uI U37 971 ((q).toNat) (Int32.ofInt (-1)) := ⟨_, rfl⟩
      rw [← eU38]
      have hHU38 : HI U38 := by rw [eU38]; exact HI_w hHU37 (show -9 ≤ (-1) by omega) (show (-1) ≤ 23 by omega)
      have hFU38 : FR md_mo_phraseMeant S U38 := by rw [eU38]; exact FR.wI hFU37 (mdf_i (r := (971, 972, 0, 100000)) (List.mem_of_getElem? (i := 14) rfl) (inR_i (by omega) (by omega) (by omega) (by omega)))
      have w680 : Xi U38 971 ((q).toNat) = (-1) := by rw [eU38]; exact Xi_same (by unfold rg; omega)
      have w681 : Xi U38 970 (q).toNat = Xi T36 970 (q).toNat := (show Xi U38 970 (q).toNat = Xi U37 970 (q).toNat from by rw [eU38]; exact Xi_ne (by omega)).trans ((show Xi U37 970 (q).toNat = Xi T36 970 (q).toNat from by rw [eU37]; exact Xi_ne (by omega)))
      have w682 : Xi U38 972 (q).toNat = Xi U37 972 (q).toNat := (show Xi U38 972 (q).toNat = Xi U37 972 (q).toNat from by rw [eU38]; exact Xi_ne (by omega))
      have w683 : Xi U38 973 (q).toNat = Xi T36 973 (q).toNat := (show Xi U38 973 (q).toNat = Xi U37 973 (q).toNat from by rw [eU38]; exact Xi_ne (by omega)).trans ((show Xi U37 973 (q).toNat = Xi T36 973 (q).toNat from by rw [eU37]; exact Xi_ne (by omega)))
      have w684 : Xi U38 974 (q).toNat = Xi T36 974 (q).toNat := (show Xi U38 974 (q).toNat = Xi U37 974 (q).toNat from by rw [eU38]; exact Xi_ne (by omega)).trans ((show Xi U37 974 (q).toNat = Xi T36 974 (q).toNat from by rw [eU37]; exact Xi_ne (by omega)))
      have w685 : Xi U38 975 (q).toNat = Xi T36 975 (q).toNat := (show Xi U38 975 (q).toNat = Xi U37 975 (q).toNat from by rw [eU38]; exact Xi_ne (by omega)).trans ((show Xi U37 975 (q).toNat = Xi T36 975 (q).toNat from by rw [eU37]; exact Xi_ne (by omega)))
      have w686 : Xi U38 976 (p).toNat = Xi T36 976 (p).toNat := (show Xi U38 976 (p).toNat = Xi U37 976 (p).toNat from by rw [eU38]; exact Xi_ne (by omega)).trans ((show Xi U37 976 (p).toNat = Xi T36 976 (p).toNat from by rw [eU37]; exact Xi_ne (by omega)))
      have w687 : Xi U38 977 (p).toNat = Xi T36 977 (p).toNat := (show Xi U38 977 (p).toNat = Xi U37 977 (p).toNat from by rw [eU38]; exact Xi_ne (by omega)).trans ((show Xi U37 977 (p).toNat = Xi T36 977 (p).toNat from by rw [eU37]; exact Xi_ne (by omega)))
      have w688 : Xi U38 904 106 = Xi T36 904 106 := (show Xi U38 904 106 = Xi U37 904 106 from by rw [eU38]; exact Xi_ne (by omega)).trans ((show Xi U37 904 106 = Xi T36 904 106 from by rw [eU37]; exact Xi_ne (by omega)))
      have w690 : Xi U38 904 115 = Xi T36 904 115 := (show Xi U38 904 115 = Xi U37 904 115 from by rw [eU38]; exact Xi_ne (by omega)).trans ((show Xi U37 904 115 = Xi T36 904 115 from by rw [eU37]; exact Xi_ne (by omega)))
      have w692 : Xi U38 904 128 = Xi T36 904 128 := (show Xi U38 904 128 = Xi U37 904 128 from by rw [eU38]; exact Xi_ne (by omega)).trans ((show Xi U37 904 128 = Xi T36 904 128 from by rw [eU37]; exact Xi_ne (by omega)))
      have w694 : Xi U38 904 129 = Xi T36 904 129 := (show Xi U38 904 129 = Xi U37 904 129 from by rw [eU38]; exact Xi_ne (by omega)).trans ((show Xi U37 904 129 = Xi T36 904 129 from by rw [eU37]; exact Xi_ne (by omega)))
      have w696 : Xi U38 904 69 = Xi T36 904 69 := (show Xi U38 904 69 = Xi U37 904 69 from by rw [eU38]; exact Xi_ne (by omega)).trans ((show Xi U37 904 69 = Xi T36 904 69 from by rw [eU37]; exact Xi_ne (by omega)))
      exact Rl_weak (C537 U38 hHU38 hFU38 (v4) (by omega) ((KQ.w (KQ.w (by assumption : KQ T36 S _) eU37 (by omega)) eU38 (by omega))) ((KH_FR (FR_e eU38) rfl (KH_FR (FR_e eU37) rfl (by assumption : KH T36 _ _)))) (by omega) (by omega) (by omega) (by omega) (by omega) (by omega) (by first | exact (fun _ x0 => ⟨by omega, fun y => absurd y (by omega), fun y => absurd y (by omega)⟩) q436 | exact (fun _ x0 => (by have t := A499 (by omega); refine ⟨by omega, fun _ y => by omega, fun _ y => ?_⟩; rw [show Xi U38 972 (q).toNat = Xi T36 904 128 by omega]; exact t.2.2 (by omega))) A499) (by first | exact (fun _ x0 => fun _ => thk_c (th437 (by omega)) rfl (by omega)) q436 | exact fun x y => absurd (by omega) y)) (And.intro rfl (And.intro rfl (And.intro rfl (True.intro))))
    · refine l_aload_n rfl rfl ?_
      refine l_gfi rfl rfl rfl rfl rfl ?_
      have w698 : (Xi U37 904 129) = (Xi T36 904 129) := (show Xi U37 904 129 = Xi T36 904 129 from by rw [eU37]; exact Xi_ne (by omega))
      rw [w698]
      refine l_goto rfl rfl ?_
      refine l_iastore (n := 2400) rfl rfl (by omega) (by omega) (by unfold rg; omega) ?_
      obtain ⟨U39, eU39⟩ : ∃ T : sS, T = uI U37 971 ((q).toNat) (Int32.ofInt (Xi T36 904 129)) := ⟨_, rfl⟩
      rw [← eU39]
      have hHU39 : HI U39 := by rw [eU39]; exact HI_w hHU37 (show -9 ≤ (Xi T36 904 129) by omega) (show (Xi T36 904 129) ≤ 23 by omega)
      have hFU39 : FR md_mo_phraseMeant S U39 := by rw [eU39]; exact FR.wI hFU37 (mdf_i (r := (971, 972, 0, 100000)) (List.mem_of_getElem? (i := 14) rfl) (inR_i (by omega) (by omega) (by omega) (by omega)))
      have w699 : Xi U39 971 ((q).toNat) = (Xi T36 904 129) := by rw [eU39]; exact Xi_same (by unfold rg; omega)
      have w700 : Xi U39 970 (q).toNat = Xi T36 970 (q).toNat := (show Xi U39 970 (q).toNat = Xi U37 970 (q).toNat from by rw [eU39]; exact Xi_ne (by omega)).trans ((show Xi U37 970 (q).toNat = Xi T36 970 (q).toNat from by rw [eU37]; exact Xi_ne (by omega)))
      have w701 : Xi U39 972 (q).toNat = Xi U37 972 (q).toNat := (show Xi U39 972 (q).toNat = Xi U37 972 (q).toNat from by rw [eU39]; exact Xi_ne (by omega))
      have w702 : Xi U39 973 (q).toNat = Xi T36 973 (q).toNat := (show Xi U39 973 (q).toNat = Xi U37 973 (q).toNat from by rw [eU39]; exact Xi_ne (by omega)).trans ((show Xi U37 973 (q).toNat = Xi T36 973 (q).toNat from by rw [eU37]; exact Xi_ne (by omega)))
      have w703 : Xi U39 974 (q).toNat = Xi T36 974 (q).toNat := (show Xi U39 974 (q).toNat = Xi U37 974 (q).toNat from by rw [eU39]; exact Xi_ne (by omega)).trans ((show Xi U37 974 (q).toNat = Xi T36 974 (q).toNat from by rw [eU37]; exact Xi_ne (by omega)))
      have w704 : Xi U39 975 (q).toNat = Xi T36 975 (q).toNat := (show Xi U39 975 (q).toNat = Xi U37 975 (q).toNat from by rw [eU39]; exact Xi_ne (by omega)).trans ((show Xi U37 975 (q).toNat = Xi T36 975 (q).toNat from by rw [eU37]; exact Xi_ne (by omega)))
      have w705 : Xi U39 976 (p).toNat = Xi T36 976 (p).toNat := (show Xi U39 976 (p).toNat = Xi U37 976 (p).toNat from by rw [eU39]; exact Xi_ne (by omega)).trans ((show Xi U37 976 (p).toNat = Xi T36 976 (p).toNat from by rw [eU37]; exact Xi_ne (by omega)))
      have w706 : Xi U39 977 (p).toNat = Xi T36 977 (p).toNat := (show Xi U39 977 (p).toNat = Xi U37 977 (p).toNat from by rw [eU39]; exact Xi_ne (by omega)).trans ((show Xi U37 977 (p).toNat = Xi T36 977 (p).toNat from by rw [eU37]; exact Xi_ne (by omega)))
      have w707 : Xi U39 904 106 = Xi T36 904 106 := (show Xi U39 904 106 = Xi U37 904 106 from by rw [eU39]; exact Xi_ne (by omega)).trans ((show Xi U37 904 106 = Xi T36 904 106 from by rw [eU37]; exact Xi_ne (by omega)))
      have w709 : Xi U39 904 115 = Xi T36 904 115 := (show Xi U39 904 115 = Xi U37 904 115 from by rw [eU39]; exact Xi_ne (by omega)).trans ((show Xi U37 904 115 = Xi T36 904 115 from by rw [eU37]; exact Xi_ne (by omega)))
      have w711 : Xi U39 904 128 = Xi T36 904 128 := (show Xi U39 904 128 = Xi U37 904 128 from by rw [eU39]; exact Xi_ne (by omega)).trans ((show Xi U37 904 128 = Xi T36 904 128 from by rw [eU37]; exact Xi_ne (by omega)))
      have w713 : Xi U39 904 129 = Xi T36 904 129 := (show Xi U39 904 129 = Xi U37 904 129 from by rw [eU39]; exact Xi_ne (by omega)).trans ((show Xi U37 904 129 = Xi T36 904 129 from by rw [eU37]; exact Xi_ne (by omega)))
      have w715 : Xi U39 904 69 = Xi T36 904 69 := (show Xi U39 904 69 = Xi U37 904 69 from by rw [eU39]; exact Xi_ne (by omega)).trans ((show Xi U37 904 69 = Xi T36 904 69 from by rw [eU37]; exact Xi_ne (by omega)))
      exact Rl_weak (C537 U39 hHU39 hFU39 (v4) (by omega) ((KQ.w (KQ.w (by assumption : KQ T36 S _) eU37 (by omega)) eU39 (by omega))) ((KH_FR (FR_e eU39) rfl (KH_FR (FR_e eU37) rfl (by assumption : KH T36 _ _)))) (by omega) (by omega) (by omega) (by omega) (by omega) (by omega) (by first | exact (fun _ x0 => ⟨by omega, fun y => absurd y (by omega), fun y => absurd y (by omega)⟩) q436 | exact (fun _ x0 => (by have t := A499 (by omega); refine ⟨by omega, fun _ y => by omega, fun _ y => ?_⟩; rw [show Xi U39 972 (q).toNat = Xi T36 904 128 by omega]; exact t.2.2 (by omega))) A499) (by first | exact (fun _ x0 => fun _ => thk_c (th437 (by omega)) rfl (by omega)) q436 | exact fun x y => absurd (by omega) y)) (And.intro rfl (And.intro rfl (And.intro rfl (True.intro))))
  · refine l_aload_n rfl rfl ?_
    refine l_gfi rfl rfl rfl rfl rfl ?_
    refine l_goto rfl rfl ?_
    refine l_iastore (n := 2400) rfl rfl (by omega) (by omega) (by unfold rg; omega) ?_
    obtain ⟨U40, eU40⟩ : ∃ T : sS, T = uI T36 972 ((q).toNat) (Int32.ofInt (Xi T36 904 128)) := ⟨_, rfl⟩
    rw [← eU40]
    have hHU40 : HI U40 := by rw [eU40]; exact HI_w hHT36 (show -1 ≤ (Xi T36 904 128) by omega) (show (Xi T36 904 128) ≤ 11 by omega)
    have hFU40 : FR md_mo_phraseMeant S U40 := by rw [eU40]; exact FR.wI hFT36 (mdf_i (r := (972, 973, 0, 100000)) (List.mem_of_getElem? (i := 15) rfl) (inR_i (by omega) (by omega) (by omega) (by omega)))
    have w717 : Xi U40 972 ((q).toNat) = (Xi T36 904 128) := by rw [eU40]; exact Xi_same (by unfold rg; omega)
    refine l_aload_n rfl rfl ?_
    refine l_gfr rfl rfl rfl rfl rfl (hHU40.r 904 120 971 rfl) ?_
    refine l_iload_n rfl rfl ?_
    refine l_iload rfl rfl ?_
    refine l_if_le rfl rfl (by unfold rg; omega) (fun w718 => ?_) (fun w719 => ?_)
    · refine l_iconst rfl ?_
      refine l_iastore (n := 2400) rfl rfl (by omega) (by omega) (by unfold rg; omega) ?_
      obtain ⟨U41, eU41⟩ : ∃ T : sS, T = uI U40 971 ((q).toNat) (Int32.ofInt (-1)) := ⟨_, rfl⟩
      rw [← eU41]
      have hHU41 : HI U41 := by rw [eU41]; exact HI_w hHU40 (show -9 ≤ (-1) by omega) (show (-1) ≤ 23 by omega)
      have hFU41 : FR md_mo_phraseMeant S U41 := by rw [eU41]; exact FR.wI hFU40 (mdf_i (r := (971, 972, 0, 100000)) (List.mem_of_getElem? (i := 14) rfl) (inR_i (by omega) (by omega) (by omega) (by omega)))
      have w720 : Xi U41 971 ((q).toNat) = (-1) := by rw [eU41]; exact Xi_same (by unfold rg; omega)
      have w721 : Xi U41 970 (q).toNat = Xi T36 970 (q).toNat := (show Xi U41 970 (q).toNat = Xi U40 970 (q).toNat from by rw [eU41]; exact Xi_ne (by omega)).trans ((show Xi U40 970 (q).toNat = Xi T36 970 (q).toNat from by rw [eU40]; exact Xi_ne (by omega)))
      have w722 : Xi U41 972 (q).toNat = Xi U40 972 (q).toNat := (show Xi U41 972 (q).toNat = Xi U40 972 (q).toNat from by rw [eU41]; exact Xi_ne (by omega))
      have w723 : Xi U41 973 (q).toNat = Xi T36 973 (q).toNat := (show Xi U41 973 (q).toNat = Xi U40 973 (q).toNat from by rw [eU41]; exact Xi_ne (by omega)).trans ((show Xi U40 973 (q).toNat = Xi T36 973 (q).toNat from by rw [eU40]; exact Xi_ne (by omega)))
      have w724 : Xi U41 974 (q).toNat = Xi T36 974 (q).toNat := (show Xi U41 974 (q).toNat = Xi U40 974 (q).toNat from by rw [eU41]; exact Xi_ne (by omega)).trans ((show Xi U40 974 (q).toNat = Xi T36 974 (q).toNat from by rw [eU40]; exact Xi_ne (by omega)))
      have w725 : Xi U41 975 (q).toNat = Xi T36 975 (q).toNat := (show Xi U41 975 (q).toNat = Xi U40 975 (q).toNat from by rw [eU41]; exact Xi_ne (by omega)).trans ((show Xi U40 975 (q).toNat = Xi T36 975 (q).toNat from by rw [eU40]; exact Xi_ne (by omega)))
      have w726 : Xi U41 976 (p).toNat = Xi T36 976 (p).toNat := (show Xi U41 976 (p).toNat = Xi U40 976 (p).toNat from by rw [eU41]; exact Xi_ne (by omega)).trans ((show Xi U40 976 (p).toNat = Xi T36 976 (p).toNat from by rw [eU40]; exact Xi_ne (by omega)))
      have w727 : Xi U41 977 (p).toNat = Xi T36 977 (p).toNat := (show Xi U41 977 (p).toNat = Xi U40 977 (p).toNat from by rw [eU41]; exact Xi_ne (by omega)).trans ((show Xi U40 977 (p).toNat = Xi T36 977 (p).toNat from by rw [eU40]; exact Xi_ne (by omega)))
      have w728 : Xi U41 904 106 = Xi T36 904 106 := (show Xi U41 904 106 = Xi U40 904 106 from by rw [eU41]; exact Xi_ne (by omega)).trans ((show Xi U40 904 106 = Xi T36 904 106 from by rw [eU40]; exact Xi_ne (by omega)))
      have w730 : Xi U41 904 115 = Xi T36 904 115 := (show Xi U41 904 115 = Xi U40 904 115 from by rw [eU41]; exact Xi_ne (by omega)).trans ((show Xi U40 904 115 = Xi T36 904 115 from by rw [eU40]; exact Xi_ne (by omega)))
      have w732 : Xi U41 904 128 = Xi T36 904 128 := (show Xi U41 904 128 = Xi U40 904 128 from by rw [eU41]; exact Xi_ne (by omega)).trans ((show Xi U40 904 128 = Xi T36 904 128 from by rw [eU40]; exact Xi_ne (by omega)))
      have w734 : Xi U41 904 129 = Xi T36 904 129 := (show Xi U41 904 129 = Xi U40 904 129 from by rw [eU41]; exact Xi_ne (by omega)).trans ((show Xi U40 904 129 = Xi T36 904 129 from by rw [eU40]; exact Xi_ne (by omega)))
      have w736 : Xi U41 904 69 = Xi T36 904 69 := (show Xi U41 904 69 = Xi U40 904 69 from by rw [eU41]; exact Xi_ne (by omega)).trans ((show Xi U40 904 69 = Xi T36 904 69 from by rw [eU40]; exact Xi_ne (by omega)))
      exact Rl_weak (C537 U41 hHU41 hFU41 (v4) (by omega) ((KQ.w (KQ.w (by assumption : KQ T36 S _) eU40 (by omega)) eU41 (by omega))) ((KH_FR (FR_e eU41) rfl (KH_FR (FR_e eU40) rfl (by assumption : KH T36 _ _)))) (by omega) (by omega) (by omega) (by omega) (by omega) (by omega) (by first | exact (fun _ x0 => ⟨by omega, fun y => absurd y (by omega), fun y => absurd y (by omega)⟩) q436 | exact (fun _ x0 => (by have t := A499 (by omega); refine ⟨by omega, fun _ y => by omega, fun _ y => ?_⟩; rw [show Xi U41 972 (q).toNat = Xi T36 904 128 by omega]; exact t.2.2 (by omega))) A499) (by first | exact (fun _ x0 => fun _ => thk_c (th437 (by omega)) rfl (by omega)) q436 | exact fun x y => absurd (by omega) y)) (And.intro rfl (And.intro rfl (And.intro rfl (True.intro))))
    · refine l_aload_n rfl rfl ?_
      refine l_gfi rfl rfl rfl rfl rfl ?_
      have w738 : (Xi U40 904 129) = (Xi T36 904 129) := (show Xi U40 904 129 = Xi T36 904 129 from by rw [eU40]; exact Xi_ne (by omega))
      rw [w738]
      refine l_goto rfl rfl ?_
      refine l_iastore (n := 2400) rfl rfl (by omega) (by omega) (by unfold rg; omega) ?_
      obtain ⟨U42, eU42⟩ : ∃ T : sS, T = uI U40 971 ((q).toNat) (Int32.ofInt (Xi T36 904 129)) := ⟨_, rfl⟩
      rw [← eU42]
      have hHU42 : HI U42 := by rw [eU42]; exact HI_w hHU40 (show -9 ≤ (Xi T36 904 129) by omega) (show (Xi T36 904 129) ≤ 23 by omega)
      have hFU42 : FR md_mo_phraseMeant S U42 := by rw [eU42]; exact FR.wI hFU40 (mdf_i (r := (971, 972, 0, 100000)) (List.mem_of_getElem? (i := 14) rfl) (inR_i (by omega) (by omega) (by omega) (by omega)))
      have w739 : Xi U42 971 ((q).toNat) = (Xi T36 904 129) := by rw [eU42]; exact Xi_same (by unfold rg; omega)
      have w740 : Xi U42 970 (q).toNat = Xi T36 970 (q).toNat := (show Xi U42 970 (q).toNat = Xi U40 970 (q).toNat from by rw [eU42]; exact Xi_ne (by omega)).trans ((show Xi U40 970 (q).toNat = Xi T36 970 (q).toNat from by rw [eU40]; exact Xi_ne (by omega)))
      have w741 : Xi U42 972 (q).toNat = Xi U40 972 (q).toNat := (show Xi U42 972 (q).toNat = Xi U40 972 (q).toNat from by rw [eU42]; exact Xi_ne (by omega))
      have w742 : Xi U42 973 (q).toNat = Xi T36 973 (q).toNat := (show Xi U42 973 (q).toNat = Xi U40 973 (q).toNat from by rw [eU42]; exact Xi_ne (by omega)).trans ((show Xi U40 973 (q).toNat = Xi T36 973 (q).toNat from by rw [eU40]; exact Xi_ne (by omega)))
      have w743 : Xi U42 974 (q).toNat = Xi T36 974 (q).toNat := (show Xi U42 974 (q).toNat = Xi U40 974 (q).toNat from by rw [eU42]; exact Xi_ne (by omega)).trans ((show Xi U40 974 (q).toNat = Xi T36 974 (q).toNat from by rw [eU40]; exact Xi_ne (by omega)))
      have w744 : Xi U42 975 (q).toNat = Xi T36 975 (q).toNat := (show Xi U42 975 (q).toNat = Xi U40 975 (q).toNat from by rw [eU42]; exact Xi_ne (by omega)).trans ((show Xi U40 975 (q).toNat = Xi T36 975 (q).toNat from by rw [eU40]; exact Xi_ne (by omega)))
      have w745 : Xi U42 976 (p).toNat = Xi T36 976 (p).toNat := (show Xi U42 976 (p).toNat = Xi U40 976 (p).toNat from by rw [eU42]; exact Xi_ne (by omega)).trans ((show Xi U40 976 (p).toNat = Xi T36 976 (p).toNat from by rw [eU40]; exact Xi_ne (by omega)))
      have w746 : Xi U42 977 (p).toNat = Xi T36 977 (p).toNat := (show Xi U42 977 (p).toNat = Xi U40 977 (p).toNat from by rw [eU42]; exact Xi_ne (by omega)).trans ((show Xi U40 977 (p).toNat = Xi T36 977 (p).toNat from by rw [eU40]; exact Xi_ne (by omega)))
      have w747 : Xi U42 904 106 = Xi T36 904 106 := (show Xi U42 904 106 = Xi U40 904 106 from by rw [eU42]; exact Xi_ne (by omega)).trans ((show Xi U40 904 106 = Xi T36 904 106 from by rw [eU40]; exact Xi_ne (by omega)))
      have w749 : Xi U42 904 115 = Xi T36 904 115 := (show Xi U42 904 115 = Xi U40 904 115 from by rw [eU42]; exact Xi_ne (by omega)).trans ((show Xi U40 904 115 = Xi T36 904 115 from by rw [eU40]; exact Xi_ne (by omega)))
      have w751 : Xi U42 904 128 = Xi T36 904 128 := (show Xi U42 904 128 = Xi U40 904 128 from by rw [eU42]; exact Xi_ne (by omega)).trans ((show Xi U40 904 128 = Xi T36 904 128 from by rw [eU40]; exact Xi_ne (by omega)))
      have w753 : Xi U42 904 129 = Xi T36 904 129 := (show Xi U42 904 129 = Xi U40 904 129 from by rw [eU42]; exact Xi_ne (by omega)).trans ((show Xi U40 904 129 = Xi T36 904 129 from by rw [eU40]; exact Xi_ne (by omega)))
      have w755 : Xi U42 904 69 = Xi T36 904 69 := (show Xi U42 904 69 = Xi U40 904 69 from by rw [eU42]; exact Xi_ne (by omega)).trans ((show Xi U40 904 69 = Xi T36 904 69 from by rw [eU40]; exact Xi_ne (by omega)))
      exact Rl_weak (C537 U42 hHU42 hFU42 (v4) (by omega) ((KQ.w (KQ.w (by assumption : KQ T36 S _) eU40 (by omega)) eU42 (by omega))) ((KH_FR (FR_e eU42) rfl (KH_FR (FR_e eU40) rfl (by assumption : KH T36 _ _)))) (by omega) (by omega) (by omega) (by omega) (by omega) (by omega) (by first | exact (fun _ x0 => ⟨by omega, fun y => absurd y (by omega), fun y => absurd y (by omega)⟩) q436 | exact (fun _ x0 => (by have t := A499 (by omega); refine ⟨by omega, fun _ y => by omega, fun _ y => ?_⟩; rw [show Xi U42 972 (q).toNat = Xi T36 904 128 by omega]; exact t.2.2 (by omega))) A499) (by first | exact (fun _ x0 => fun _ => thk_c (th437 (by omega)) rfl (by omega)) q436 | exact fun x y => absurd (by omega) y)) (And.intro rfl (And.intro rfl (And.intro rfl (True.intro))))
set_option maxRecDepth 100000 in
set_option maxHeartbeats 16000000 in
theorem c475_mo_phraseMeant {S : sS} (hH : HI S) (n : Nat) (i : Int) (q : Int) (p : Int) (hi : 0 ≤ i ∧ i ≤ 1699) (hq : 0 ≤ q ∧ q ≤ 2399) (hp : 0 ≤ p ∧ p ≤ 1999) (hT : TK S n) (hv : RNV S n) (hM : LXM S) (hB : ABV S) (hC : DCM S) (hK : TXK S n) (hX : TXM S) (hit : Xi S 904 115 = -1) (hpv : PV S n i.toNat) (h64 : Xi S 964 i.toNat ≤ 1699) (d : Nat) : ∀  (T43 : sS) (_ : HI T43) (_ : FR md_mo_phraseMeant S T43) (v4 : Int) (v5 : Int) (v6 : Int), (0 ≤ v4 ∧ v4 ≤ 1699) → (0 ≤ v5 ∧ v5 ≤ 2599) → (0 ≤ v6 ∧ v6 ≤ 4) → (KQ T43 S q) → (KH T43 S p) → (Xi T43 976 (p).toNat = 5) → (Xi T43 977 (p).toNat = q) → (Xi S 904 106 ≠ 0 → Xi T43 904 106 ≠ 0) → (Xi T43 904 69 = Xi S 904 69) → (Xi T43 904 115 = -1) → (v4 = Xi S 964 (i).toNat) → (Xi S 963 (i).toNat = 5) → (Xi S 953 (Xi S 964 (i).toNat).toNat = 0) → (v5 = Xi S 956 (Xi S 964 (i).toNat).toNat) → (Xi T43 904 106 = 0 → 1 ≤ v6) → (1 ≤ v6 → (0 ≤ Xi T43 904 128 ∧ Xi T43 904 128 < Xi S 904 49) ∧ Xi T43 904 129 < Xi S 904 19 ∧ (Xi T43 904 129 = -1 → Xi S 942 (Xi T43 904 128).toNat < 0)) → Rl lay0 (d + 7) m_mo_phraseMeant 475 [(0, .ref 904), (2, iv q), (4, iv v4), (5, iv v5), (6, iv v6)] [] T43 (Q_mo_phraseMeant S n i q p) := by
  have C499 := c499_mo_phraseMeant hH n i q p hi hq hp hT hv hM hB hC hK hX hit hpv h64 d 
  have hF : FR md_mo_phraseMeant S S := FR.rf
  have w1 : 0 ≤ Xi S 904 106 ∧ Xi S 904 106 ≤ 9 := hH.c _ _
  have w2 : -1 ≤ Xi S 904 115 ∧ Xi S 904 115 ≤ 15 := hH.c _ _
  have w3 : -1 ≤ Xi S 904 116 ∧ Xi S 904 116 ≤ 15 := hH.c _ _
  have w4 : 0 ≤ Xi S 904 128 ∧ Xi S 904 128 ≤ 11 := hH.c _ _
  have w5 : -1 ≤ Xi S 904 129 ∧ Xi S 904 129 ≤ 23 := hH.c _ _
  have w6 : 0 ≤ Xi S 904 19 ∧ Xi S 904 19 ≤ 24 := hH.c _ _
  have w7 : 0 ≤ Xi S 904 49 ∧ Xi S 904 49 ≤ 12 := hH.c _ _
  have w8 : 0 ≤ Xi S 904 69 ∧ Xi S 904 69 ≤ 2600 := hH.c _ _
  have hn5 := hT.1
  have hc69 : 0 ≤ Xi S 904 69 ∧ Xi S 904 69 ≤ 2600 := hH.c _ _
  have hc19 : 0 ≤ Xi S 904 19 ∧ Xi S 904 19 ≤ 24 := hH.c _ _
  have hc32 : 0 ≤ Xi S 904 32 ∧ Xi S 904 32 ≤ 12 := hH.c _ _
  have hc49 : 0 ≤ Xi S 904 49 ∧ Xi S 904 49 ≤ 12 := hH.c _ _
  have h963 : 0 ≤ Xi S 963 (i).toNat ∧ Xi S 963 (i).toNat ≤ 6 := hH.c 963 _
  have h964 : 0 ≤ Xi S 964 (i).toNat := (hH.c 964 (i).toNat).1
  have hp : PVt S n (Xi S 963 (i).toNat) (Xi S 964 (i).toNat).toNat := hpv
  have hrf : ∀ r : Int, 0 ≤ r → r < Xi S 904 69 → Xi S 950 r.toNat + Xi S 951 r.toNat ≤ n ∧ 1 ≤ Xi S 951 r.toNat := fun r a b => hv r.toNat (by omega)
  have h956 : 0 ≤ Xi S 956 (Xi S 964 (i).toNat).toNat := (hH.c 956 _).1
  intro T43 hHT43 hFT43 v4 v5 v6 w757 w758 w759 K475 P475 w760 w761 w762 w763 w764 w765 w766 w767 w768 w769 A475
  have w770 : Xi T43 904 115 = Xi S 904 115 := hFT43.x _ _ rfl
  have w771 : Xi T43 904 116 = Xi S 904 116 := hFT43.x _ _ rfl
  have w772 : Xi T43 904 19 = Xi S 904 19 := hFT43.x _ _ rfl
  have w773 : Xi T43 904 32 = Xi S 904 32 := hFT43.x _ _ rfl
  have w774 : Xi T43 904 49 = Xi S 904 49 := hFT43.x _ _ rfl
  have w775 : Xi T43 904 69 = Xi S 904 69 := hFT43.x _ _ rfl
  have w776 : 0 ≤ Xi T43 904 106 ∧ Xi T43 904 106 ≤ 9 := hHT43.c _ _
  have w777 : -1 ≤ Xi T43 904 115 ∧ Xi T43 904 115 ≤ 15 := hHT43.c _ _
  have w778 : 0 ≤ Xi T43 904 128 ∧ Xi T43 904 128 ≤ 11 := hHT43.c _ _
  have w779 : -1 ≤ Xi T43 904 129 ∧ Xi T43 904 129 ≤ 23 := hHT43.c _ _
  have w780 : 0 ≤ Xi T43 904 69 ∧ Xi T43 904 69 ≤ 2600 := hHT43.c _ _
  refine l_aload_n rfl rfl ?_
  refine l_iload rfl rfl ?_
  refine l_iconst rfl ?_
  refine l_icmp_ge rfl rfl (by unfold rg; omega) (by unfold rg; omega) (fun w781 => ?_) (fun w782 => ?_)
  · refine l_iconst rfl ?_
    refine l_bipush rfl rfl ?_
    refine l_aload_n rfl rfl ?_
    refine l_gfr rfl rfl rfl rfl rfl (hHT43.r 904 67 950 rfl) ?_
    refine l_iload rfl rfl ?_
    refine l_iaload (n := 2600) rfl rfl (by omega) (by omega) (by unfold rg; omega) ?_
    have w783 : 0 ≤ (Xi T43 950 ((v5).toNat)) ∧ (Xi T43 950 ((v5).toNat)) ≤ 5010 := hHT43.c _ _
    have e495 : (Xi T43 950 ((v5).toNat)) = Xi S 950 (Xi S 956 (Xi S 964 (i).toNat).toNat).toNat := by rw [(hFT43.cx 950 rfl _).1]; exact congrArg (fun t : Int => Xi S 950 t.toNat) (by omega)
    have g495 := hrf (Xi S 956 (Xi S 964 (i).toNat).toNat) (by omega) (hp.2.2.2.2.1 (by omega))
    refine l_callV rfl rfl rfl (t_mo_need hHT43 0 7 (Xi T43 950 ((v5).toNat)) ⟨by omega, by omega⟩ ⟨by omega, by omega⟩ ⟨by omega, by omega⟩ _) ?_
    rintro _ T44 ⟨hHT44, w792, rfl, w789, w790⟩
    have hFT44 : FR md_mo_phraseMeant S T44 := FR.tr hFT43 w792 rfl
    show Rl _ _ _ _ _ [] _ _
    have w793 : Xi T44 970 (q).toNat = Xi T43 970 (q).toNat := (show Xi T44 970 (q).toNat = Xi T43 970 (q).toNat from (w792.cx 970 rfl _).1)
    have w794 : Xi T44 971 (q).toNat = Xi T43 971 (q).toNat := (show Xi T44 971 (q).toNat = Xi T43 971 (q).toNat from (w792.cx 971 rfl _).1)
    have w795 : Xi T44 972 (q).toNat = Xi T43 972 (q).toNat := (show Xi T44 972 (q).toNat = Xi T43 972 (q).toNat from (w792.cx 972 rfl _).1)
    have w796 : Xi T44 973 (q).toNat = Xi T43 973 (q).toNat := (show Xi T44 973 (q).toNat = Xi T43 973 (q).toNat from (w792.cx 973 rfl _).1)
    have w797 : Xi T44 974 (q).toNat = Xi T43 974 (q).toNat := (show Xi T44 974 (q).toNat = Xi T43 974 (q).toNat from (w792.cx 974 rfl _).1)
    have w798 : Xi T44 975 (q).toNat = Xi T43 975 (q).toNat := (show Xi T44 975 (q).toNat = Xi T43 975 (q).toNat from (w792.cx 975 rfl _).1)
    have w799 : Xi T44 976 (p).toNat = Xi T43 976 (p).toNat := (show Xi T44 976 (p).toNat = Xi T43 976 (p).toNat from (w792.cx 976 rfl _).1)
    have w800 : Xi T44 977 (p).toNat = Xi T43 977 (p).toNat := (show Xi T44 977 (p).toNat = Xi T43 977 (p).toNat from (w792.cx 977 rfl _).1)
    have w801 : 0 ≤ Xi T44 904 106 ∧ Xi T44 904 106 ≤ 9 := hHT44.c _ _
    have w802 : Xi T44 904 115 = Xi T43 904 115 := (show Xi T44 904 115 = Xi T43 904 115 from w792.x _ _ rfl)
    have w804 : Xi T44 904 128 = Xi T43 904 128 := (show Xi T44 904 128 = Xi T43 904 128 from w792.x _ _ rfl)
    have w806 : Xi T44 904 129 = Xi T43 904 129 := (show Xi T44 904 129 = Xi T43 904 129 from w792.x _ _ rfl)
    have w808 : Xi T44 904 69 = Xi T43 904 69 := (show Xi T44 904 69 = Xi T43 904 69 from w792.x _ _ rfl)
    exact Rl_weak (C499 T44 hHT44 hFT44 (v4) (v6) (by omega) (by omega) ((KQ_FR w792 rfl (by assumption : KQ T43 S _))) ((KH_FR w792 rfl (by assumption : KH T43 _ _))) (by omega) (by omega) (by omega) (by omega) (by omega) (by omega) (by omega) (by omega) (by omega) (fun x => by rw [show Xi T44 904 128 = Xi T43 904 128 by omega, show Xi T44 904 129 = Xi T43 904 129 by omega]; exact A475 x)) (And.intro rfl (And.intro rfl (And.intro rfl (And.intro rfl (True.intro)))))
  · refine l_iconst rfl ?_
    refine l_goto rfl rfl ?_
    refine l_bipush rfl rfl ?_
    refine l_aload_n rfl rfl ?_
    refine l_gfr rfl rfl rfl rfl rfl (hHT43.r 904 67 950 rfl) ?_
    refine l_iload rfl rfl ?_
    refine l_iaload (n := 2600) rfl rfl (by omega) (by omega) (by unfold rg; omega) ?_
    have w810 : 0 ≤ (Xi T43 950 ((v5).toNat)) ∧ (Xi T43 950 ((v5).toNat)) ≤ 5010 := hHT43.c _ _
    have e495 : (Xi T43 950 ((v5).toNat)) = Xi S 950 (Xi S 956 (Xi S 964 (i).toNat).toNat).toNat := by rw [(hFT43.cx 950 rfl _).1]; exact congrArg (fun t : Int => Xi S 950 t.toNat) (by omega)
    have g495 := hrf (Xi S 956 (Xi S 964 (i).toNat).toNat) (by omega) (hp.2.2.2.2.1 (by omega))
    refine l_callV rfl rfl rfl (t_mo_need hHT43 1 7 (Xi T43 950 ((v5).toNat)) ⟨by omega, by omega⟩ ⟨by omega, by omega⟩ ⟨by omega, by omega⟩ _) ?_
    rintro _ T45 ⟨hHT45, w819, rfl, w816, w817⟩
    have hFT45 : FR md_mo_phraseMeant S T45 := FR.tr hFT43 w819 rfl
    show Rl _ _ _ _ _ [] _ _
    have w820 : Xi T45 970 (q).toNat = Xi T43 970 (q).toNat := (show Xi T45 970 (q).toNat = Xi T43 970 (q).toNat from (w819.cx 970 rfl _).1)
    have w821 : Xi T45 971 (q).toNat = Xi T43 971 (q).toNat := (show Xi T45 971 (q).toNat = Xi T43 971 (q).toNat from (w819.cx 971 rfl _).1)
    have w822 : Xi T45 972 (q).toNat = Xi T43 972 (q).toNat := (show Xi T45 972 (q).toNat = Xi T43 972 (q).toNat from (w819.cx 972 rfl _).1)
    have w823 : Xi T45 973 (q).toNat = Xi T43 973 (q).toNat := (show Xi T45 973 (q).toNat = Xi T43 973 (q).toNat from (w819.cx 973 rfl _).1)
    have w824 : Xi T45 974 (q).toNat = Xi T43 974 (q).toNat := (show Xi T45 974 (q).toNat = Xi T43 974 (q).toNat from (w819.cx 974 rfl _).1)
    have w825 : Xi T45 975 (q).toNat = Xi T43 975 (q).toNat := (show Xi T45 975 (q).toNat = Xi T43 975 (q).toNat from (w819.cx 975 rfl _).1)
    have w826 : Xi T45 976 (p).toNat = Xi T43 976 (p).toNat := (show Xi T45 976 (p).toNat = Xi T43 976 (p).toNat from (w819.cx 976 rfl _).1)
    have w827 : Xi T45 977 (p).toNat = Xi T43 977 (p).toNat := (show Xi T45 977 (p).toNat = Xi T43 977 (p).toNat from (w819.cx 977 rfl _).1)
    have w828 : 0 ≤ Xi T45 904 106 ∧ Xi T45 904 106 ≤ 9 := hHT45.c _ _
    have w829 : Xi T45 904 115 = Xi T43 904 115 := (show Xi T45 904 115 = Xi T43 904 115 from w819.x _ _ rfl)
    have w831 : Xi T45 904 128 = Xi T43 904 128 := (show Xi T45 904 128 = Xi T43 904 128 from w819.x _ _ rfl)
    have w833 : Xi T45 904 129 = Xi T43 904 129 := (show Xi T45 904 129 = Xi T43 904 129 from w819.x _ _ rfl)
    have w835 : Xi T45 904 69 = Xi T43 904 69 := (show Xi T45 904 69 = Xi T43 904 69 from w819.x _ _ rfl)
    exact Rl_weak (C499 T45 hHT45 hFT45 (v4) (v6) (by omega) (by omega) ((KQ_FR w819 rfl (by assumption : KQ T43 S _))) ((KH_FR w819 rfl (by assumption : KH T43 _ _))) (by omega) (by omega) (by omega) (by omega) (by omega) (by omega) (by omega) (by omega) (by omega) (fun x => by rw [show Xi T45 904 128 = Xi T43 904 128 by omega, show Xi T45 904 129 = Xi T43 904 129 by omega]; exact A475 x)) (And.intro rfl (And.intro rfl (And.intro rfl (And.intro rfl (True.intro)))))
set_option maxRecDepth 100000 in
set_option maxHeartbeats 16000000 in
theorem c444_mo_phraseMeant {S : sS} (hH : HI S) (n : Nat) (i : Int) (q : Int) (p : Int) (hi : 0 ≤ i ∧ i ≤ 1699) (hq : 0 ≤ q ∧ q ≤ 2399) (hp : 0 ≤ p ∧ p ≤ 1999) (hT : TK S n) (hv : RNV S n) (hM : LXM S) (hB : ABV S) (hC : DCM S) (hK : TXK S n) (hX : TXM S) (hit : Xi S 904 115 = -1) (hpv : PV S n i.toNat) (h64 : Xi S 964 i.toNat ≤ 1699) (d : Nat) : ∀  (T46 : sS) (_ : HI T46) (_ : FR md_mo_phraseMeant S T46) (v4 : Int) (v5 : Int), (0 ≤ v4 ∧ v4 ≤ 1699) → (0 ≤ v5 ∧ v5 ≤ 2600) → (KQ T46 S q) → (KH T46 S p) → (Xi T46 976 (p).toNat = 5) → (Xi T46 977 (p).toNat = q) → (Xi S 904 106 ≠ 0 → Xi T46 904 106 ≠ 0) → (Xi T46 904 69 = Xi S 904 69) → (Xi T46 904 115 = -1) → (v4 = Xi S 964 (i).toNat) → (Xi S 963 (i).toNat = 5) → (Xi S 953 (Xi S 964 (i).toNat).toNat = 0) → (v5 = Xi S 956 (Xi S 964 (i).toNat).toNat) → (v5 < Xi S 904 69) → Rl lay0 (d + 7) m_mo_phraseMeant 444 [(0, .ref 904), (2, iv q), (4, iv v4), (5, iv v5)] [] T46 (Q_mo_phraseMeant S n i q p) := by
  have C475 := c475_mo_phraseMeant hH n i q p hi hq hp hT hv hM hB hC hK hX hit hpv h64 d 
  have hF : FR md_mo_phraseMeant S S := FR.rf
  have w1 : 0 ≤ Xi S 904 106 ∧ Xi S 904 106 ≤ 9 := hH.c _ _
  have w2 : -1 ≤ Xi S 904 115 ∧ Xi S 904 115 ≤ 15 := hH.c _ _
  have w3 : -1 ≤ Xi S 904 116 ∧ Xi S 904 116 ≤ 15 := hH.c _ _
  have w4 : 0 ≤ Xi S 904 128 ∧ Xi S 904 128 ≤ 11 := hH.c _ _
  have w5 : -1 ≤ Xi S 904 129 ∧ Xi S 904 129 ≤ 23 := hH.c _ _
  have w6 : 0 ≤ Xi S 904 19 ∧ Xi S 904 19 ≤ 24 := hH.c _ _
  have w7 : 0 ≤ Xi S 904 49 ∧ Xi S 904 49 ≤ 12 := hH.c _ _
  have w8 : 0 ≤ Xi S 904 69 ∧ Xi S 904 69 ≤ 2600 := hH.c _ _
  have hn5 := hT.1
  have hc69 : 0 ≤ Xi S 904 69 ∧ Xi S 904 69 ≤ 2600 := hH.c _ _
  have hc19 : 0 ≤ Xi S 904 19 ∧ Xi S 904 19 ≤ 24 := hH.c _ _
  have hc32 : 0 ≤ Xi S 904 32 ∧ Xi S 904 32 ≤ 12 := hH.c _ _
  have hc49 : 0 ≤ Xi S 904 49 ∧ Xi S 904 49 ≤ 12 := hH.c _ _
  have h963 : 0 ≤ Xi S 963 (i).toNat ∧ Xi S 963 (i).toNat ≤ 6 := hH.c 963 _
  have h964 : 0 ≤ Xi S 964 (i).toNat := (hH.c 964 (i).toNat).1
  have hp : PVt S n (Xi S 963 (i).toNat) (Xi S 964 (i).toNat).toNat := hpv
  have hrf : ∀ r : Int, 0 ≤ r → r < Xi S 904 69 → Xi S 950 r.toNat + Xi S 951 r.toNat ≤ n ∧ 1 ≤ Xi S 951 r.toNat := fun r a b => hv r.toNat (by omega)
  have h956 : 0 ≤ Xi S 956 (Xi S 964 (i).toNat).toNat := (hH.c 956 _).1
  intro T46 hHT46 hFT46 v4 v5 w837 w838 K444 P444 w839 w840 w841 w842 w843 w844 w845 w846 w847 w848
  have w849 : Xi T46 904 115 = Xi S 904 115 := hFT46.x _ _ rfl
  have w850 : Xi T46 904 116 = Xi S 904 116 := hFT46.x _ _ rfl
  have w851 : Xi T46 904 19 = Xi S 904 19 := hFT46.x _ _ rfl
  have w852 : Xi T46 904 32 = Xi S 904 32 := hFT46.x _ _ rfl
  have w853 : Xi T46 904 49 = Xi S 904 49 := hFT46.x _ _ rfl
  have w854 : Xi T46 904 69 = Xi S 904 69 := hFT46.x _ _ rfl
  have w855 : 0 ≤ Xi T46 904 106 ∧ Xi T46 904 106 ≤ 9 := hHT46.c _ _
  have w856 : -1 ≤ Xi T46 904 115 ∧ Xi T46 904 115 ≤ 15 := hHT46.c _ _
  have w857 : 0 ≤ Xi T46 904 69 ∧ Xi T46 904 69 ≤ 2600 := hHT46.c _ _
  refine l_aload_n rfl rfl ?_
  refine l_iload rfl rfl ?_
  refine l_iconst rfl ?_
  have w860 : 0 ≤ Xi T46 904 128 ∧ Xi T46 904 128 ≤ 11 := hHT46.c _ _
  have w861 : -1 ≤ Xi T46 904 129 ∧ Xi T46 904 129 ≤ 23 := hHT46.c _ _
  have w862 : 0 ≤ Xi T46 904 19 ∧ Xi T46 904 19 ≤ 24 := hHT46.c _ _
  have w863 : 0 ≤ Xi T46 904 49 ∧ Xi T46 904 49 ≤ 12 := hHT46.c _ _
  refine l_callV rfl rfl rfl (t_mo_actings hHT46 n v5 1 ⟨by omega, by omega⟩ ⟨by omega, by omega⟩ (by first | assumption | exact (TK_FR hFT46 rfl (by assumption : TK S _))) (by first | assumption | exact (RNV_FR hFT46 rfl (by assumption : RNV S _))) (by first | assumption | omega) (by first | assumption | exact (LXM_FR hFT46 rfl (by assumption : LXM S))) (by first | assumption | exact (ABV_FR hFT46 rfl (by assumption : ABV S))) _) ?_
  rintro _ T47 ⟨hHT47, w867, z866, rfl, w866, w865⟩
  have hFT47 : FR md_mo_phraseMeant S T47 := FR.tr hFT46 w867 rfl
  show Rl _ _ _ _ _ [iv z866] _ _
  have A448 : 1 ≤ z866 → (0 ≤ Xi T47 904 128 ∧ Xi T47 904 128 < Xi S 904 49) ∧ Xi T47 904 129 < Xi S 904 19 ∧ (Xi T47 904 129 = -1 → Xi S 942 (Xi T47 904 128).toNat < 0) := fun x => by have t := (by assumption : 1 ≤ z866 → _) x; rw [hFT46.x 904 49 rfl, hFT46.x 904 19 rfl, (hFT46.cx 942 rfl _).1] at t; exact ⟨t.1, t.2.1, fun y => t.2.2.2 (by decide) y⟩
  refine l_istore rfl rfl rfl ?_
  refine l_aload_n rfl rfl ?_
  refine l_iload rfl rfl ?_
  refine l_if_le rfl rfl (by unfold rg; omega) (fun w868 => ?_) (fun w869 => ?_)
  · refine l_iconst rfl ?_
    refine l_iconst rfl ?_
    refine l_aload_n rfl rfl ?_
    refine l_gfr rfl rfl rfl rfl rfl (hHT47.r 904 67 950 rfl) ?_
    refine l_iload rfl rfl ?_
    refine l_iaload (n := 2600) rfl rfl (by omega) (by omega) (by unfold rg; omega) ?_
    have w870 : 0 ≤ (Xi T47 950 ((v5).toNat)) ∧ (Xi T47 950 ((v5).toNat)) ≤ 5010 := hHT47.c _ _
    have e471 : (Xi T47 950 ((v5).toNat)) = Xi S 950 (Xi S 956 (Xi S 964 (i).toNat).toNat).toNat := by rw [(hFT47.cx 950 rfl _).1]; exact congrArg (fun t : Int => Xi S 950 t.toNat) (by omega)
    have g471 := hrf (Xi S 956 (Xi S 964 (i).toNat).toNat) (by omega) (hp.2.2.2.2.1 (by omega))
    have w871 : Xi T47 904 106 = Xi T46 904 106 := (show Xi T47 904 106 = Xi T46 904 106 from w867.x _ _ rfl)
    refine l_callV rfl rfl rfl (t_mo_need hHT47 0 4 (Xi T47 950 ((v5).toNat)) ⟨by omega, by omega⟩ ⟨by omega, by omega⟩ ⟨by omega, by omega⟩ _) ?_
    rintro _ T48 ⟨hHT48, w882, rfl, w879, w880⟩
    have hFT48 : FR md_mo_phraseMeant S T48 := FR.tr hFT47 w882 rfl
    show Rl _ _ _ _ _ [] _ _
    have w883 : Xi T48 970 (q).toNat = Xi T46 970 (q).toNat := (show Xi T48 970 (q).toNat = Xi T47 970 (q).toNat from (w882.cx 970 rfl _).1).trans ((show Xi T47 970 (q).toNat = Xi T46 970 (q).toNat from (w867.cx 970 rfl _).1))
    have w884 : Xi T48 971 (q).toNat = Xi T46 971 (q).toNat := (show Xi T48 971 (q).toNat = Xi T47 971 (q).toNat from (w882.cx 971 rfl _).1).trans ((show Xi T47 971 (q).toNat = Xi T46 971 (q).toNat from (w867.cx 971 rfl _).1))
    have w885 : Xi T48 972 (q).toNat = Xi T46 972 (q).toNat := (show Xi T48 972 (q).toNat = Xi T47 972 (q).toNat from (w882.cx 972 rfl _).1).trans ((show Xi T47 972 (q).toNat = Xi T46 972 (q).toNat from (w867.cx 972 rfl _).1))
    have w886 : Xi T48 973 (q).toNat = Xi T46 973 (q).toNat := (show Xi T48 973 (q).toNat = Xi T47 973 (q).toNat from (w882.cx 973 rfl _).1).trans ((show Xi T47 973 (q).toNat = Xi T46 973 (q).toNat from (w867.cx 973 rfl _).1))
    have w887 : Xi T48 974 (q).toNat = Xi T46 974 (q).toNat := (show Xi T48 974 (q).toNat = Xi T47 974 (q).toNat from (w882.cx 974 rfl _).1).trans ((show Xi T47 974 (q).toNat = Xi T46 974 (q).toNat from (w867.cx 974 rfl _).1))
    have w888 : Xi T48 975 (q).toNat = Xi T46 975 (q).toNat := (show Xi T48 975 (q).toNat = Xi T47 975 (q).toNat from (w882.cx 975 rfl _).1).trans ((show Xi T47 975 (q).toNat = Xi T46 975 (q).toNat from (w867.cx 975 rfl _).1))
    have w889 : Xi T48 976 (p).toNat = Xi T46 976 (p).toNat := (show Xi T48 976 (p).toNat = Xi T47 976 (p).toNat from (w882.cx 976 rfl _).1).trans ((show Xi T47 976 (p).toNat = Xi T46 976 (p).toNat from (w867.cx 976 rfl _).1))
    have w890 : Xi T48 977 (p).toNat = Xi T46 977 (p).toNat := (show Xi T48 977 (p).toNat = Xi T47 977 (p).toNat from (w882.cx 977 rfl _).1).trans ((show Xi T47 977 (p).toNat = Xi T46 977 (p).toNat from (w867.cx 977 rfl _).1))
    have w891 : 0 ≤ Xi T48 904 106 ∧ Xi T48 904 106 ≤ 9 := hHT48.c _ _
    have w892 : Xi T48 904 115 = Xi T46 904 115 := (show Xi T48 904 115 = Xi T47 904 115 from w882.x _ _ rfl).trans ((show Xi T47 904 115 = Xi T46 904 115 from w867.x _ _ rfl))
    have w894 : Xi T48 904 128 = Xi T47 904 128 := (show Xi T48 904 128 = Xi T47 904 128 from w882.x _ _ rfl)
    have w895 : 0 ≤ Xi T47 904 128 ∧ Xi T47 904 128 ≤ 11 := hHT47.c _ _
    have w896 : Xi T48 904 129 = Xi T47 904 129 := (show Xi T48 904 129 = Xi T47 904 129 from w882.x _ _ rfl)
    have w897 : -1 ≤ Xi T47 904 129 ∧ Xi T47 904 129 ≤ 23 := hHT47.c _ _
    have w898 : Xi T48 904 69 = Xi T46 904 69 := (show Xi T48 904 69 = Xi T47 904 69 from w882.x _ _ rfl).trans ((show Xi T47 904 69 = Xi T46 904 69 from w867.x _ _ rfl))
    exact Rl_weak (C475 T48 hHT48 hFT48 (v4) (v5) (z866) (by omega) (by omega) (by omega) ((KQ_FR w882 rfl (KQ_FR w867 rfl (by assumption : KQ T46 S _)))) ((KH_FR w882 rfl (KH_FR w867 rfl (by assumption : KH T46 _ _)))) (by omega) (by omega) (by omega) (by omega) (by omega) (by omega) (by omega) (by omega) (by omega) (by omega) (fun x => by rw [show Xi T48 904 128 = Xi T47 904 128 by omega, show Xi T48 904 129 = Xi T47 904 129 by omega]; exact A448 x)) (And.intro rfl (And.intro rfl (And.intro rfl (And.intro rfl (And.intro rfl (True.intro))))))
  · refine l_iconst rfl ?_
    refine l_goto rfl rfl ?_
    refine l_iconst rfl ?_
    refine l_aload_n rfl rfl ?_
    refine l_gfr rfl rfl rfl rfl rfl (hHT47.r 904 67 950 rfl) ?_
    refine l_iload rfl rfl ?_
    refine l_iaload (n := 2600) rfl rfl (by omega) (by omega) (by unfold rg; omega) ?_
    have w900 : 0 ≤ (Xi T47 950 ((v5).toNat)) ∧ (Xi T47 950 ((v5).toNat)) ≤ 5010 := hHT47.c _ _
    have e471 : (Xi T47 950 ((v5).toNat)) = Xi S 950 (Xi S 956 (Xi S 964 (i).toNat).toNat).toNat := by rw [(hFT47.cx 950 rfl _).1]; exact congrArg (fun t : Int => Xi S 950 t.toNat) (by omega)
    have g471 := hrf (Xi S 956 (Xi S 964 (i).toNat).toNat) (by omega) (hp.2.2.2.2.1 (by omega))
    have w901 : Xi T47 904 106 = Xi T46 904 106 := (show Xi T47 904 106 = Xi T46 904 106 from w867.x _ _ rfl)
    refine l_callV rfl rfl rfl (t_mo_need hHT47 1 4 (Xi T47 950 ((v5).toNat)) ⟨by omega, by omega⟩ ⟨by omega, by omega⟩ ⟨by omega, by omega⟩ _) ?_
    rintro _ T49 ⟨hHT49, w912, rfl, w909, w910⟩
    have hFT49 : FR md_mo_phraseMeant S T49 := FR.tr hFT47 w912 rfl
    show Rl _ _ _ _ _ [] _ _
    have w913 : Xi T49 970 (q).toNat = Xi T46 970 (q).toNat := (show Xi T49 970 (q).toNat = Xi T47 970 (q).toNat from (w912.cx 970 rfl _).1).trans ((show Xi T47 970 (q).toNat = Xi T46 970 (q).toNat from (w867.cx 970 rfl _).1))
    have w914 : Xi T49 971 (q).toNat = Xi T46 971 (q).toNat := (show Xi T49 971 (q).toNat = Xi T47 971 (q).toNat from (w912.cx 971 rfl _).1).trans ((show Xi T47 971 (q).toNat = Xi T46 971 (q).toNat from (w867.cx 971 rfl _).1))
    have w915 : Xi T49 972 (q).toNat = Xi T46 972 (q).toNat := (show Xi T49 972 (q).toNat = Xi T47 972 (q).toNat from (w912.cx 972 rfl _).1).trans ((show Xi T47 972 (q).toNat = Xi T46 972 (q).toNat from (w867.cx 972 rfl _).1))
    have w916 : Xi T49 973 (q).toNat = Xi T46 973 (q).toNat := (show Xi T49 973 (q).toNat = Xi T47 973 (q).toNat from (w912.cx 973 rfl _).1).trans ((show Xi T47 973 (q).toNat = Xi T46 973 (q).toNat from (w867.cx 973 rfl _).1))
    have w917 : Xi T49 974 (q).toNat = Xi T46 974 (q).toNat := (show Xi T49 974 (q).toNat = Xi T47 974 (q).toNat from (w912.cx 974 rfl _).1).trans ((show Xi T47 974 (q).toNat = Xi T46 974 (q).toNat from (w867.cx 974 rfl _).1))
    have w918 : Xi T49 975 (q).toNat = Xi T46 975 (q).toNat := (show Xi T49 975 (q).toNat = Xi T47 975 (q).toNat from (w912.cx 975 rfl _).1).trans ((show Xi T47 975 (q).toNat = Xi T46 975 (q).toNat from (w867.cx 975 rfl _).1))
    have w919 : Xi T49 976 (p).toNat = Xi T46 976 (p).toNat := (show Xi T49 976 (p).toNat = Xi T47 976 (p).toNat from (w912.cx 976 rfl _).1).trans ((show Xi T47 976 (p).toNat = Xi T46 976 (p).toNat from (w867.cx 976 rfl _).1))
    have w920 : Xi T49 977 (p).toNat = Xi T46 977 (p).toNat := (show Xi T49 977 (p).toNat = Xi T47 977 (p).toNat from (w912.cx 977 rfl _).1).trans ((show Xi T47 977 (p).toNat = Xi T46 977 (p).toNat from (w867.cx 977 rfl _).1))
    have w921 : 0 ≤ Xi T49 904 106 ∧ Xi T49 904 106 ≤ 9 := hHT49.c _ _
    have w922 : Xi T49 904 115 = Xi T46 904 115 := (show Xi T49 904 115 = Xi T47 904 115 from w912.x _ _ rfl).trans ((show Xi T47 904 115 = Xi T46 904 115 from w867.x _ _ rfl))
    have w924 : Xi T49 904 128 = Xi T47 904 128 := (show Xi T49 904 128 = Xi T47 904 128 from w912.x _ _ rfl)
    have w925 : 0 ≤ Xi T47 904 128 ∧ Xi T47 904 128 ≤ 11 := hHT47.c _ _
    have w926 : Xi T49 904 129 = Xi T47 904 129 := (show Xi T49 904 129 = Xi T47 904 129 from w912.x _ _ rfl)
    have w927 : -1 ≤ Xi T47 904 129 ∧ Xi T47 904 129 ≤ 23 := hHT47.c _ _
    have w928 : Xi T49 904 69 = Xi T46 904 69 := (show Xi T49 904 69 = Xi T47 904 69 from w912.x _ _ rfl).trans ((show Xi T47 904 69 = Xi T46 904 69 from w867.x _ _ rfl))
    exact Rl_weak (C475 T49 hHT49 hFT49 (v4) (v5) (z866) (by omega) (by omega) (by omega) ((KQ_FR w912 rfl (KQ_FR w867 rfl (by assumption : KQ T46 S _)))) ((KH_FR w912 rfl (KH_FR w867 rfl (by assumption : KH T46 _ _)))) (by omega) (by omega) (by omega) (by omega) (by omega) (by omega) (by omega) (by omega) (by omega) (by omega) (fun x => by rw [show Xi T49 904 128 = Xi T47 904 128 by omega, show Xi T49 904 129 = Xi T47 904 129 by omega]; exact A448 x)) (And.intro rfl (And.intro rfl (And.intro rfl (And.intro rfl (And.intro rfl (True.intro))))))
set_option maxRecDepth 100000 in
set_option maxHeartbeats 16000000 in
theorem c347_mo_phraseMeant {S : sS} (hH : HI S) (n : Nat) (i : Int) (q : Int) (p : Int) (hi : 0 ≤ i ∧ i ≤ 1699) (hq : 0 ≤ q ∧ q ≤ 2399) (hp : 0 ≤ p ∧ p ≤ 1999) (hT : TK S n) (hv : RNV S n) (hM : LXM S) (hB : ABV S) (hC : DCM S) (hK : TXK S n) (hX : TXM S) (hit : Xi S 904 115 = -1) (hpv : PV S n i.toNat) (h64 : Xi S 964 i.toNat ≤ 1699) (d : Nat) : ∀  (T50 : sS) (_ : HI T50) (_ : FR md_mo_phraseMeant S T50) (v4 : Int), (0 ≤ v4 ∧ v4 ≤ 1700) → (KQ T50 S q) → (KH T50 S p) → (Xi T50 976 (p).toNat = 5) → (Xi T50 977 (p).toNat = q) → (Xi S 904 106 ≠ 0 → Xi T50 904 106 ≠ 0) → (Xi T50 904 69 = Xi S 904 69) → (Xi T50 904 115 = -1) → (v4 = Xi S 964 (i).toNat) → (Xi S 963 (i).toNat = 5) → Rl lay0 (d + 7) m_mo_phraseMeant 347 [(0, .ref 904), (2, iv q), (4, iv v4)] [] T50 (Q_mo_phraseMeant S n i q p) := by
  have C366 := c366_mo_phraseMeant hH n i q p hi hq hp hT hv hM hB hC hK hX hit hpv h64 d 
  have C444 := c444_mo_phraseMeant hH n i q p hi hq hp hT hv hM hB hC hK hX hit hpv h64 d 
  have hF : FR md_mo_phraseMeant S S := FR.rf
  have w1 : 0 ≤ Xi S 904 106 ∧ Xi S 904 106 ≤ 9 := hH.c _ _
  have w2 : -1 ≤ Xi S 904 115 ∧ Xi S 904 115 ≤ 15 := hH.c _ _
  have w3 : -1 ≤ Xi S 904 116 ∧ Xi S 904 116 ≤ 15 := hH.c _ _
  have w4 : 0 ≤ Xi S 904 128 ∧ Xi S 904 128 ≤ 11 := hH.c _ _
  have w5 : -1 ≤ Xi S 904 129 ∧ Xi S 904 129 ≤ 23 := hH.c _ _
  have w6 : 0 ≤ Xi S 904 19 ∧ Xi S 904 19 ≤ 24 := hH.c _ _
  have w7 : 0 ≤ Xi S 904 49 ∧ Xi S 904 49 ≤ 12 := hH.c _ _
  have w8 : 0 ≤ Xi S 904 69 ∧ Xi S 904 69 ≤ 2600 := hH.c _ _
  have hn5 := hT.1
  have hc69 : 0 ≤ Xi S 904 69 ∧ Xi S 904 69 ≤ 2600 := hH.c _ _
  have hc19 : 0 ≤ Xi S 904 19 ∧ Xi S 904 19 ≤ 24 := hH.c _ _
  have hc32 : 0 ≤ Xi S 904 32 ∧ Xi S 904 32 ≤ 12 := hH.c _ _
  have hc49 : 0 ≤ Xi S 904 49 ∧ Xi S 904 49 ≤ 12 := hH.c _ _
  have h963 : 0 ≤ Xi S 963 (i).toNat ∧ Xi S 963 (i).toNat ≤ 6 := hH.c 963 _
  have h964 : 0 ≤ Xi S 964 (i).toNat := (hH.c 964 (i).toNat).1
  have hp : PVt S n (Xi S 963 (i).toNat) (Xi S 964 (i).toNat).toNat := hpv
  have hrf : ∀ r : Int, 0 ≤ r → r < Xi S 904 69 → Xi S 950 r.toNat + Xi S 951 r.toNat ≤ n ∧ 1 ≤ Xi S 951 r.toNat := fun r a b => hv r.toNat (by omega)
  have h956 : 0 ≤ Xi S 956 (Xi S 964 (i).toNat).toNat := (hH.c 956 _).1
  intro T50 hHT50 hFT50 v4 w930 K347 P347 w931 w932 w933 w934 w935 w936 w937
  have w938 : Xi T50 904 115 = Xi S 904 115 := hFT50.x _ _ rfl
  have w939 : Xi T50 904 116 = Xi S 904 116 := hFT50.x _ _ rfl
  have w940 : Xi T50 904 19 = Xi S 904 19 := hFT50.x _ _ rfl
  have w941 : Xi T50 904 32 = Xi S 904 32 := hFT50.x _ _ rfl
  have w942 : Xi T50 904 49 = Xi S 904 49 := hFT50.x _ _ rfl
  have w943 : Xi T50 904 69 = Xi S 904 69 := hFT50.x _ _ rfl
  have w944 : 0 ≤ Xi T50 904 106 ∧ Xi T50 904 106 ≤ 9 := hHT50.c _ _
  have w945 : -1 ≤ Xi T50 904 115 ∧ Xi T50 904 115 ≤ 15 := hHT50.c _ _
  have w946 : 0 ≤ Xi T50 904 69 ∧ Xi T50 904 69 ≤ 2600 := hHT50.c _ _
  refine l_aload_n rfl rfl ?_
  refine l_gfr rfl rfl rfl rfl rfl (hHT50.r 904 86 956 rfl) ?_
  refine l_iload rfl rfl ?_
  refine l_iaload (n := 1700) rfl rfl (by omega) (by omega) (by unfold rg; omega) ?_
  have w947 : 0 ≤ (Xi T50 956 ((v4).toNat)) ∧ (Xi T50 956 ((v4).toNat)) ≤ 2600 := hHT50.c _ _
  have e353 : (Xi T50 956 ((v4).toNat)) = Xi S 956 (Xi S 964 (i).toNat).toNat := by first | rfl | exact (hFT50.cx 956 rfl _).1 | exact (hFT50.cx 956 rfl _).1 | (rw [(hFT50.cx 956 rfl _).1]; exact congrArg (fun t : Int => Xi S 956 t.toNat) (by omega)) | (rw [(hFT50.cx 956 rfl _).1]; exact congrArg (fun t : Int => Xi S 956 t.toNat) (by omega)) | (rw [(hFT50.cx 956 rfl _).1]; exact congrArg (fun t : Int => Xi S 956 t.toNat) (by omega)) | (rw [(hFT50.cx 956 rfl _).1]; exact congrArg (fun t : Int => Xi S 956 t.toNat) (by omega))
  have r353 := hp.2.2.2.2.1 (by omega)
  have g353 := hrf (Xi S 956 (Xi S 964 (i).toNat).toNat) (by omega) r353
  refine l_istore rfl rfl rfl ?_
  refine l_aload_n rfl rfl ?_
  refine l_gfr rfl rfl rfl rfl rfl (hHT50.r 904 83 953 rfl) ?_
  refine l_iload rfl rfl ?_
  refine l_baload (n := 1700) rfl rfl rfl (by decide) (by omega) (by omega) (by unfold rg; omega) ?_
  have w948 : 0 ≤ (Xi T50 953 ((v4).toNat)) ∧ (Xi T50 953 ((v4).toNat)) ≤ 1 := hHT50.c _ _
  have e362 : (Xi T50 953 ((v4).toNat)) = Xi S 953 (Xi S 964 (i).toNat).toNat := by first | rfl | exact (hFT50.cx 953 rfl _).1 | exact (hFT50.cx 953 rfl _).1 | (rw [(hFT50.cx 953 rfl _).1]; exact congrArg (fun t : Int => Xi S 953 t.toNat) (by omega)) | (rw [(hFT50.cx 953 rfl _).1]; exact congrArg (fun t : Int => Xi S 953 t.toNat) (by omega)) | (rw [(hFT50.cx 953 rfl _).1]; exact congrArg (fun t : Int => Xi S 953 t.toNat) (by omega)) | (rw [(hFT50.cx 953 rfl _).1]; exact congrArg (fun t : Int => Xi S 953 t.toNat) (by omega))
  refine l_if_eq rfl rfl (by unfold rg; omega) (fun w949 => ?_) (fun w950 => ?_)
  · have w951 : 0 ≤ Xi T50 904 106 ∧ Xi T50 904 106 ≤ 9 := hHT50.c _ _
    have w953 : 0 ≤ Xi T50 904 128 ∧ Xi T50 904 128 ≤ 11 := hHT50.c _ _
    have w954 : -1 ≤ Xi T50 904 129 ∧ Xi T50 904 129 ≤ 23 := hHT50.c _ _
    exact Rl_weak (C444 T50 hHT50 hFT50 (v4) ((Xi T50 956 ((v4).toNat))) (by omega) (by omega) ((by assumption : KQ T50 S _)) ((by assumption : KH T50 _ _)) (by omega) (by omega) (by omega) (by omega) (by omega) (by omega) (by omega) (by omega) (by omega) (by omega)) (And.intro rfl (And.intro rfl (And.intro rfl (And.intro rfl (True.intro)))))
  · have w956 : 0 ≤ Xi T50 904 106 ∧ Xi T50 904 106 ≤ 9 := hHT50.c _ _
    have w958 : 0 ≤ Xi T50 904 128 ∧ Xi T50 904 128 ≤ 11 := hHT50.c _ _
    have w959 : -1 ≤ Xi T50 904 129 ∧ Xi T50 904 129 ≤ 23 := hHT50.c _ _
    exact Rl_weak (C366 T50 hHT50 hFT50 (v4) ((Xi T50 956 ((v4).toNat))) (by omega) (by omega) ((by assumption : KQ T50 S _)) ((by assumption : KH T50 _ _)) (by omega) (by omega) (by omega) (by omega) (by omega) (by omega) (by omega) (by omega) (by omega) (by omega)) (And.intro rfl (And.intro rfl (And.intro rfl (And.intro rfl (True.intro)))))
set_option maxRecDepth 100000 in
set_option maxHeartbeats 16000000 in
theorem t_mo_phraseMeant {S : sS} (hH : HI S) (n : Nat) (i : Int) (q : Int) (p : Int) (hi : 0 ≤ i ∧ i ≤ 1699) (hq : 0 ≤ q ∧ q ≤ 2399) (hp : 0 ≤ p ∧ p ≤ 1999) (hT : TK S n) (hv : RNV S n) (hM : LXM S) (hB : ABV S) (hC : DCM S) (hK : TXK S n) (hX : TXM S) (hit : Xi S 904 115 = -1) (hpv : PV S n i.toNat) (h64 : Xi S 964 i.toNat ≤ 1699) (d : Nat) : Mt lay0 (d + 8) m_mo_phraseMeant [.ref 904, iv i, iv q, iv p] S (Q_mo_phraseMeant S n i q p) := by
  refine Mt_R rfl rfl ?_
  have C36 := c36_mo_phraseMeant hH n i q p hi hq hp hT hv hM hB hC hK hX hit hpv h64 d 
  have C115 := c115_mo_phraseMeant hH n i q p hi hq hp hT hv hM hB hC hK hX hit hpv h64 d 
  have C210 := c210_mo_phraseMeant hH n i q p hi hq hp hT hv hM hB hC hK hX hit hpv h64 d 
  have C136 := c136_mo_phraseMeant hH n i q p hi hq hp hT hv hM hB hC hK hX hit hpv h64 d 
  have C257 := c257_mo_phraseMeant hH n i q p hi hq hp hT hv hM hB hC hK hX hit hpv h64 d 
  have C537 := c537_mo_phraseMeant hH n i q p hi hq hp hT hv hM hB hC hK hX hit hpv h64 d 
  have C409 := c409_mo_phraseMeant hH n i q p hi hq hp hT hv hM hB hC hK hX hit hpv h64 d 
  have C366 := c366_mo_phraseMeant hH n i q p hi hq hp hT hv hM hB hC hK hX hit hpv h64 d 
  have C499 := c499_mo_phraseMeant hH n i q p hi hq hp hT hv hM hB hC hK hX hit hpv h64 d 
  have C475 := c475_mo_phraseMeant hH n i q p hi hq hp hT hv hM hB hC hK hX hit hpv h64 d 
  have C444 := c444_mo_phraseMeant hH n i q p hi hq hp hT hv hM hB hC hK hX hit hpv h64 d 
  have C347 := c347_mo_phraseMeant hH n i q p hi hq hp hT hv hM hB hC hK hX hit hpv h64 d 
  have hF : FR md_mo_phraseMeant S S := FR.rf
  have w1 : 0 ≤ Xi S 904 106 ∧ Xi S 904 106 ≤ 9 := hH.c _ _
  have w2 : -1 ≤ Xi S 904 115 ∧ Xi S 904 115 ≤ 15 := hH.c _ _
  have w3 : -1 ≤ Xi S 904 116 ∧ Xi S 904 116 ≤ 15 := hH.c _ _
  have w4 : 0 ≤ Xi S 904 128 ∧ Xi S 904 128 ≤ 11 := hH.c _ _
  have w5 : -1 ≤ Xi S 904 129 ∧ Xi S 904 129 ≤ 23 := hH.c _ _
  have w6 : 0 ≤ Xi S 904 19 ∧ Xi S 904 19 ≤ 24 := hH.c _ _
  have w7 : 0 ≤ Xi S 904 49 ∧ Xi S 904 49 ≤ 12 := hH.c _ _
  have w8 : 0 ≤ Xi S 904 69 ∧ Xi S 904 69 ≤ 2600 := hH.c _ _
  have hn5 := hT.1
  have hc69 : 0 ≤ Xi S 904 69 ∧ Xi S 904 69 ≤ 2600 := hH.c _ _
  have hc19 : 0 ≤ Xi S 904 19 ∧ Xi S 904 19 ≤ 24 := hH.c _ _
  have hc32 : 0 ≤ Xi S 904 32 ∧ Xi S 904 32 ≤ 12 := hH.c _ _
  have hc49 : 0 ≤ Xi S 904 49 ∧ Xi S 904 49 ≤ 12 := hH.c _ _
  have h963 : 0 ≤ Xi S 963 (i).toNat ∧ Xi S 963 (i).toNat ≤ 6 := hH.c 963 _
  have h964 : 0 ≤ Xi S 964 (i).toNat := (hH.c 964 (i).toNat).1
  have hp : PVt S n (Xi S 963 (i).toNat) (Xi S 964 (i).toNat).toNat := hpv
  have hrf : ∀ r : Int, 0 ≤ r → r < Xi S 904 69 → Xi S 950 r.toNat + Xi S 951 r.toNat ≤ n ∧ 1 ≤ Xi S 951 r.toNat := fun r a b => hv r.toNat (by omega)
  have h956 : 0 ≤ Xi S 956 (Xi S 964 (i).toNat).toNat := (hH.c 956 _).1
  refine l_aload_n rfl rfl ?_
  refine l_gfr rfl rfl rfl rfl rfl (hH.r 904 96 964 rfl) ?_
  refine l_iload_n rfl rfl ?_
  refine l_iaload (n := 1700) rfl rfl (by omega) (by omega) (by unfold rg; omega) ?_
  have w961 : 0 ≤ (Xi S 964 ((i).toNat)) ∧ (Xi S 964 ((i).toNat)) ≤ 1700 := hH.c _ _
  refine l_istore rfl rfl rfl ?_
  refine l_aload_n rfl rfl ?_
  refine l_gfr rfl rfl rfl rfl rfl (hH.r 904 126 976 rfl) ?_
  refine l_iload_n rfl rfl ?_
  refine l_aload_n rfl rfl ?_
  refine l_gfr rfl rfl rfl rfl rfl (hH.r 904 95 963 rfl) ?_
  refine l_iload_n rfl rfl ?_
  refine l_iaload (n := 1700) rfl rfl (by omega) (by omega) (by unfold rg; omega) ?_
  have w962 : 0 ≤ (Xi S 963 ((i).toNat)) ∧ (Xi S 963 ((i).toNat)) ≤ 6 := hH.c _ _
  refine l_iastore (n := 2000) rfl rfl (by omega) (by omega) (by unfold rg; omega) ?_
  obtain ⟨U51, eU51⟩ : ∃ T : sS, T = uI S 976 ((p).toNat) (Int32.ofInt (Xi S 963 ((i).toNat))) := ⟨_, rfl⟩
  rw [← eU51]
  have hHU51 : HI U51 := by rw [eU51]; exact HI_w hH (show 0 ≤ (Xi S 963 ((i).toNat)) by omega) (show (Xi S 963 ((i).toNat)) ≤ 6 by omega)
  have hFU51 : FR md_mo_phraseMeant S U51 := by rw [eU51]; exact FR.wI hF (mdf_i (r := (976, 977, 0, 100000)) (List.mem_of_getElem? (i := 19) rfl) (inR_i (by omega) (by omega) (by omega) (by omega)))
  have w963 : Xi U51 976 ((p).toNat) = (Xi S 963 ((i).toNat)) := by rw [eU51]; exact Xi_same (by unfold rg; omega)
  refine l_aload_n rfl rfl ?_
  refine l_gfr rfl rfl rfl rfl rfl (hHU51.r 904 127 977 rfl) ?_
  refine l_iload_n rfl rfl ?_
  refine l_iload_n rfl rfl ?_
  refine l_iastore (n := 2000) rfl rfl (by omega) (by omega) (by unfold rg; omega) ?_
  obtain ⟨U52, eU52⟩ : ∃ T : sS, T = uI U51 977 ((p).toNat) (Int32.ofInt q) := ⟨_, rfl⟩
  rw [← eU52]
  have hHU52 : HI U52 := by rw [eU52]; exact HI_w hHU51 (show 0 ≤ q by omega) (show q ≤ 2400 by omega)
  have hFU52 : FR md_mo_phraseMeant S U52 := by rw [eU52]; exact FR.wI hFU51 (mdf_i (r := (977, 978, 0, 100000)) (List.mem_of_getElem? (i := 20) rfl) (inR_i (by omega) (by omega) (by omega) (by omega)))
  have w964 : Xi U52 977 ((p).toNat) = q := by rw [eU52]; exact Xi_same (by unfold rg; omega)
  have k26 : KH U52 S p := KH.w2 eU51 eU52 (by omega)
  refine l_aload_n rfl rfl ?_
  refine l_gfr rfl rfl rfl rfl rfl (hHU52.r 904 95 963 rfl) ?_
  refine l_iload_n rfl rfl ?_
  refine l_iaload (n := 1700) rfl rfl (by omega) (by omega) (by unfold rg; omega) ?_
  have w965 : (Xi U52 963 ((i).toNat)) = (Xi S 963 ((i).toNat)) := (show Xi U52 963 ((i).toNat) = Xi U51 963 ((i).toNat) from by rw [eU52]; exact Xi_ne (by omega)).trans ((show Xi U51 963 ((i).toNat) = Xi S 963 ((i).toNat) from by rw [eU51]; exact Xi_ne (by omega)))
  rw [w965]
  have e32 : (Xi S 963 ((i).toNat)) = Xi S 963 (i).toNat := by first | rfl | exact (hFU52.cx 963 rfl _).1
  refine l_if_ne rfl rfl (by unfold rg; omega) (fun w966 => ?_) (fun w967 => ?_)
  · refine l_aload_n rfl rfl ?_
    refine l_gfr rfl rfl rfl rfl rfl (hHU52.r 904 95 963 rfl) ?_
    refine l_iload_n rfl rfl ?_
    refine l_iaload (n := 1700) rfl rfl (by omega) (by omega) (by unfold rg; omega) ?_
    have w968 : (Xi U52 963 ((i).toNat)) = (Xi S 963 ((i).toNat)) := (show Xi U52 963 ((i).toNat) = Xi U51 963 ((i).toNat) from by rw [eU52]; exact Xi_ne (by omega)).trans ((show Xi U51 963 ((i).toNat) = Xi S 963 ((i).toNat) from by rw [eU51]; exact Xi_ne (by omega)))
    rw [w968]
    have e110 : (Xi S 963 ((i).toNat)) = Xi S 963 (i).toNat := by first | rfl | exact (hFU52.cx 963 rfl _).1
    refine l_iconst rfl ?_
    refine l_icmp_ne rfl rfl (by unfold rg; omega) (by unfold rg; omega) (fun w969 => ?_) (fun w970 => ?_)
    · refine l_aload_n rfl rfl ?_
      refine l_gfr rfl rfl rfl rfl rfl (hHU52.r 904 95 963 rfl) ?_
      refine l_iload_n rfl rfl ?_
      refine l_iaload (n := 1700) rfl rfl (by omega) (by omega) (by unfold rg; omega) ?_
      have w971 : (Xi U52 963 ((i).toNat)) = (Xi S 963 ((i).toNat)) := (show Xi U52 963 ((i).toNat) = Xi U51 963 ((i).toNat) from by rw [eU52]; exact Xi_ne (by omega)).trans ((show Xi U51 963 ((i).toNat) = Xi S 963 ((i).toNat) from by rw [eU51]; exact Xi_ne (by omega)))
      rw [w971]
      have e131 : (Xi S 963 ((i).toNat)) = Xi S 963 (i).toNat := by first | rfl | exact (hFU52.cx 963 rfl _).1
      refine l_iconst rfl ?_
      refine l_icmp_ne rfl rfl (by unfold rg; omega) (by unfold rg; omega) (fun w972 => ?_) (fun w973 => ?_)
      · refine l_aload_n rfl rfl ?_
        refine l_gfr rfl rfl rfl rfl rfl (hHU52.r 904 95 963 rfl) ?_
        refine l_iload_n rfl rfl ?_
        refine l_iaload (n := 1700) rfl rfl (by omega) (by omega) (by unfold rg; omega) ?_
        have w974 : (Xi U52 963 ((i).toNat)) = (Xi S 963 ((i).toNat)) := (show Xi U52 963 ((i).toNat) = Xi U51 963 ((i).toNat) from by rw [eU52]; exact Xi_ne (by omega)).trans ((show Xi U51 963 ((i).toNat) = Xi S 963 ((i).toNat) from by rw [eU51]; exact Xi_ne (by omega)))
        rw [w974]
        have e242 : (Xi S 963 ((i).toNat)) = Xi S 963 (i).toNat := by first | rfl | exact (hFU52.cx 963 rfl _).1
        refine l_iconst rfl ?_
        refine l_icmp_eq rfl rfl (by unfold rg; omega) (by unfold rg; omega) (fun w975 => ?_) (fun w976 => ?_)
        · have w977 : Xi U52 970 (q).toNat = Xi S 970 (q).toNat := (show Xi U52 970 (q).toNat = Xi U51 970 (q).toNat from by rw [eU52]; exact Xi_ne (by omega)).trans ((show Xi U51 970 (q).toNat = Xi S 970 (q).toNat from by rw [eU51]; exact Xi_ne (by omega)))
          have w978 : Xi U52 971 (q).toNat = Xi S 971 (q).toNat := (show Xi U52 971 (q).toNat = Xi U51 971 (q).toNat from by rw [eU52]; exact Xi_ne (by omega)).trans ((show Xi U51 971 (q).toNat = Xi S 971 (q).toNat from by rw [eU51]; exact Xi_ne (by omega)))
          have w979 : Xi U52 972 (q).toNat = Xi S 972 (q).toNat := (show Xi U52 972 (q).toNat = Xi U51 972 (q).toNat from by rw [eU52]; exact Xi_ne (by omega)).trans ((show Xi U51 972 (q).toNat = Xi S 972 (q).toNat from by rw [eU51]; exact Xi_ne (by omega)))
          have w980 : Xi U52 973 (q).toNat = Xi S 973 (q).toNat := (show Xi U52 973 (q).toNat = Xi U51 973 (q).toNat from by rw [eU52]; exact Xi_ne (by omega)).trans ((show Xi U51 973 (q).toNat = Xi S 973 (q).toNat from by rw [eU51]; exact Xi_ne (by omega)))
          have w981 : Xi U52 974 (q).toNat = Xi S 974 (q).toNat := (show Xi U52 974 (q).toNat = Xi U51 974 (q).toNat from by rw [eU52]; exact Xi_ne (by omega)).trans ((show Xi U51 974 (q).toNat = Xi S 974 (q).toNat from by rw [eU51]; exact Xi_ne (by omega)))
          have w982 : Xi U52 975 (q).toNat = Xi S 975 (q).toNat := (show Xi U52 975 (q).toNat = Xi U51 975 (q).toNat from by rw [eU52]; exact Xi_ne (by omega)).trans ((show Xi U51 975 (q).toNat = Xi S 975 (q).toNat from by rw [eU51]; exact Xi_ne (by omega)))
          have w983 : Xi U52 976 (p).toNat = Xi U51 976 (p).toNat := (show Xi U52 976 (p).toNat = Xi U51 976 (p).toNat from by rw [eU52]; exact Xi_ne (by omega))
          have w984 : Xi U52 904 106 = Xi S 904 106 := (show Xi U52 904 106 = Xi U51 904 106 from by rw [eU52]; exact Xi_ne (by omega)).trans ((show Xi U51 904 106 = Xi S 904 106 from by rw [eU51]; exact Xi_ne (by omega)))
          have w986 : Xi U52 904 115 = Xi S 904 115 := (show Xi U52 904 115 = Xi U51 904 115 from by rw [eU52]; exact Xi_ne (by omega)).trans ((show Xi U51 904 115 = Xi S 904 115 from by rw [eU51]; exact Xi_ne (by omega)))
          have w988 : Xi U52 904 128 = Xi S 904 128 := (show Xi U52 904 128 = Xi U51 904 128 from by rw [eU52]; exact Xi_ne (by omega)).trans ((show Xi U51 904 128 = Xi S 904 128 from by rw [eU51]; exact Xi_ne (by omega)))
          have w990 : Xi U52 904 129 = Xi S 904 129 := (show Xi U52 904 129 = Xi U51 904 129 from by rw [eU52]; exact Xi_ne (by omega)).trans ((show Xi U51 904 129 = Xi S 904 129 from by rw [eU51]; exact Xi_ne (by omega)))
          have w992 : Xi U52 904 69 = Xi S 904 69 := (show Xi U52 904 69 = Xi U51 904 69 from by rw [eU52]; exact Xi_ne (by omega)).trans ((show Xi U51 904 69 = Xi S 904 69 from by rw [eU51]; exact Xi_ne (by omega)))
          exact Rl_weak (C257 U52 hHU52 hFU52 ((Xi S 964 ((i).toNat))) (by omega) ((KQ.w (KQ.w KQ.rf eU51 (by omega)) eU52 (by omega))) ((by assumption : KH U52 _ _)) (by omega) (by omega) (by omega) (by omega) (by omega) (by omega) (by omega)) (And.intro rfl (And.intro rfl (And.intro rfl (True.intro))))
        · refine l_aload_n rfl rfl ?_
          refine l_gfr rfl rfl rfl rfl rfl (hHU52.r 904 95 963 rfl) ?_
          refine l_iload_n rfl rfl ?_
          refine l_iaload (n := 1700) rfl rfl (by omega) (by omega) (by unfold rg; omega) ?_
          have w994 : (Xi U52 963 ((i).toNat)) = (Xi S 963 ((i).toNat)) := (show Xi U52 963 ((i).toNat) = Xi U51 963 ((i).toNat) from by rw [eU52]; exact Xi_ne (by omega)).trans ((show Xi U51 963 ((i).toNat) = Xi S 963 ((i).toNat) from by rw [eU51]; exact Xi_ne (by omega)))
          rw [w994]
          have e252 : (Xi S 963 ((i).toNat)) = Xi S 963 (i).toNat := by first | rfl | exact (hFU52.cx 963 rfl _).1
          refine l_iconst rfl ?_
          refine l_icmp_ne rfl rfl (by unfold rg; omega) (by unfold rg; omega) (fun w995 => ?_) (fun w996 => ?_)
          · refine l_aload_n rfl rfl ?_
            refine l_gfr rfl rfl rfl rfl rfl (hHU52.r 904 95 963 rfl) ?_
            refine l_iload_n rfl rfl ?_
            refine l_iaload (n := 1700) rfl rfl (by omega) (by omega) (by unfold rg; omega) ?_
            have w997 : (Xi U52 963 ((i).toNat)) = (Xi S 963 ((i).toNat)) := (show Xi U52 963 ((i).toNat) = Xi U51 963 ((i).toNat) from by rw [eU52]; exact Xi_ne (by omega)).trans ((show Xi U51 963 ((i).toNat) = Xi S 963 ((i).toNat) from by rw [eU51]; exact Xi_ne (by omega)))
            rw [w997]
            have e342 : (Xi S 963 ((i).toNat)) = Xi S 963 (i).toNat := by first | rfl | exact (hFU52.cx 963 rfl _).1
            refine l_iconst rfl ?_
            refine l_icmp_ne rfl rfl (by unfold rg; omega) (by unfold rg; omega) (fun w998 => ?_) (fun w999 => ?_)
            · refine l_return rfl rfl ?_
              have w1000 : Xi U52 970 (q).toNat = Xi S 970 (q).toNat := (show Xi U52 970 (q).toNat = Xi U51 970 (q).toNat from by rw [eU52]; exact Xi_ne (by omega)).trans ((show Xi U51 970 (q).toNat = Xi S 970 (q).toNat from by rw [eU51]; exact Xi_ne (by omega)))
              have w1001 : Xi U52 971 (q).toNat = Xi S 971 (q).toNat := (show Xi U52 971 (q).toNat = Xi U51 971 (q).toNat from by rw [eU52]; exact Xi_ne (by omega)).trans ((show Xi U51 971 (q).toNat = Xi S 971 (q).toNat from by rw [eU51]; exact Xi_ne (by omega)))
              have w1002 : Xi U52 972 (q).toNat = Xi S 972 (q).toNat := (show Xi U52 972 (q).toNat = Xi U51 972 (q).toNat from by rw [eU52]; exact Xi_ne (by omega)).trans ((show Xi U51 972 (q).toNat = Xi S 972 (q).toNat from by rw [eU51]; exact Xi_ne (by omega)))
              have w1003 : Xi U52 973 (q).toNat = Xi S 973 (q).toNat := (show Xi U52 973 (q).toNat = Xi U51 973 (q).toNat from by rw [eU52]; exact Xi_ne (by omega)).trans ((show Xi U51 973 (q).toNat = Xi S 973 (q).toNat from by rw [eU51]; exact Xi_ne (by omega)))
              have w1004 : Xi U52 974 (q).toNat = Xi S 974 (q).toNat := (show Xi U52 974 (q).toNat = Xi U51 974 (q).toNat from by rw [eU52]; exact Xi_ne (by omega)).trans ((show Xi U51 974 (q).toNat = Xi S 974 (q).toNat from by rw [eU51]; exact Xi_ne (by omega)))
              have w1005 : Xi U52 975 (q).toNat = Xi S 975 (q).toNat := (show Xi U52 975 (q).toNat = Xi U51 975 (q).toNat from by rw [eU52]; exact Xi_ne (by omega)).trans ((show Xi U51 975 (q).toNat = Xi S 975 (q).toNat from by rw [eU51]; exact Xi_ne (by omega)))
              have w1006 : Xi U52 976 (p).toNat = Xi U51 976 (p).toNat := (show Xi U52 976 (p).toNat = Xi U51 976 (p).toNat from by rw [eU52]; exact Xi_ne (by omega))
              have w1007 : Xi U52 904 106 = Xi S 904 106 := (show Xi U52 904 106 = Xi U51 904 106 from by rw [eU52]; exact Xi_ne (by omega)).trans ((show Xi U51 904 106 = Xi S 904 106 from by rw [eU51]; exact Xi_ne (by omega)))
              have w1009 : Xi U52 904 115 = Xi S 904 115 := (show Xi U52 904 115 = Xi U51 904 115 from by rw [eU52]; exact Xi_ne (by omega)).trans ((show Xi U51 904 115 = Xi S 904 115 from by rw [eU51]; exact Xi_ne (by omega)))
              have w1011 : Xi U52 904 128 = Xi S 904 128 := (show Xi U52 904 128 = Xi U51 904 128 from by rw [eU52]; exact Xi_ne (by omega)).trans ((show Xi U51 904 128 = Xi S 904 128 from by rw [eU51]; exact Xi_ne (by omega)))
              have w1013 : Xi U52 904 129 = Xi S 904 129 := (show Xi U52 904 129 = Xi U51 904 129 from by rw [eU52]; exact Xi_ne (by omega)).trans ((show Xi U51 904 129 = Xi S 904 129 from by rw [eU51]; exact Xi_ne (by omega)))
              have w1015 : Xi U52 904 69 = Xi S 904 69 := (show Xi U52 904 69 = Xi U51 904 69 from by rw [eU52]; exact Xi_ne (by omega)).trans ((show Xi U51 904 69 = Xi S 904 69 from by rw [eU51]; exact Xi_ne (by omega)))
              exact ⟨hHU52, hFU52, rfl, (by omega), (by first | exact (fun _ x0 => pq_i (q := (q).toNat) (w := 0) (pqt_0 (by omega)) (by omega) (by omega) (by omega)) o42 | exact (fun _ x0 => pq_i (q := (q).toNat) (w := 1) (pqt_1 ⟨(t120 (by omega)).mono (fun y => absurd y (by omega)) (fun y => by omega), (n120 (by omega) rfl).1, (n120 (by omega) rfl).2⟩) (by omega) (by omega) (by omega)) t120 | exact (fun _ x0 => pq_i (q := (q).toNat) (w := 2) (pqt_2 (thk_c (H210 (by omega)) (hFU52.x 904 19 rfl) (by omega)) (thk_c (th230 (by omega)) (hFU52.x 904 19 rfl) (by omega))) (by omega) (by omega) (by omega)) th230 | exact (fun _ x0 => pq_i (q := (q).toNat) (w := Xi U52 976 (p).toNat) (pqt_3 (by omega) (thk_c (th277 (by omega)) (hFU52.x 904 19 rfl) (by omega)) (by have a := hFU52.x 904 32 rfl; omega) (by rw [(hFU52.cx 928 rfl _).1, show Xi U52 972 (q).toNat = rnR S (Xi S 956 (Xi S 964 (i).toNat).toNat) 7 from by have t := p300 (by omega); omega]; have t := n312 (by omega); omega)) (by omega) (by omega) (by omega)) th277 | exact (fun _ x0 => pq_i (q := (q).toNat) (w := 5) (pqt_5 (by have a := hFU52.x 904 49 rfl; have t := (Z537 (by omega)).1; omega) (fun y => (by by_cases c : Xi S 953 (Xi S 964 (i).toNat).toNat = 0; exact Or.inl (by have t := (Z537 (by omega)).2.1 c (by omega); have a := hFU52.x 904 19 rfl; omega); exact thk_c (Y537 (by omega) c) (hFU52.x 904 19 rfl) (by omega))) (fun y => by rw [(hFU52.cx 942 rfl _).1, show Xi U52 972 (q).toNat = Xi S 972 (q).toNat by omega]; exact (Z537 (by omega)).2.2 (by omega) (by omega))) (by omega) (by omega) (by omega)) Z537 | exact fun x => pq_i (q := (q).toNat) (w := 6) pqt_6 (by omega) (by omega) (by omega) | exact fun x => absurd x (by omega)), ((KQ.w (KQ.w KQ.rf eU51 (by omega)) eU52 (by omega))), ((by assumption : KH U52 _ _)), (by omega)⟩
            · have w1017 : Xi U52 970 (q).toNat = Xi S 970 (q).toNat := (show Xi U52 970 (q).toNat = Xi U51 970 (q).toNat from by rw [eU52]; exact Xi_ne (by omega)).trans ((show Xi U51 970 (q).toNat = Xi S 970 (q).toNat from by rw [eU51]; exact Xi_ne (by omega)))
              have w1018 : Xi U52 971 (q).toNat = Xi S 971 (q).toNat := (show Xi U52 971 (q).toNat = Xi U51 971 (q).toNat from by rw [eU52]; exact Xi_ne (by omega)).trans ((show Xi U51 971 (q).toNat = Xi S 971 (q).toNat from by rw [eU51]; exact Xi_ne (by omega)))
              have w1019 : Xi U52 972 (q).toNat = Xi S 972 (q).toNat := (show Xi U52 972 (q).toNat = Xi U51 972 (q).toNat from by rw [eU52]; exact Xi_ne (by omega)).trans ((show Xi U51 972 (q).toNat = Xi S 972 (q).toNat from by rw [eU51]; exact Xi_ne (by omega)))
              have w1020 : Xi U52 973 (q).toNat = Xi S 973 (q).toNat := (show Xi U52 973 (q).toNat = Xi U51 973 (q).toNat from by rw [eU52]; exact Xi_ne (by omega)).trans ((show Xi U51 973 (q).toNat = Xi S 973 (q).toNat from by rw [eU51]; exact Xi_ne (by omega)))
              have w1021 : Xi U52 974 (q).toNat = Xi S 974 (q).toNat := (show Xi U52 974 (q).toNat = Xi U51 974 (q).toNat from by rw [eU52]; exact Xi_ne (by omega)).trans ((show Xi U51 974 (q).toNat = Xi S 974 (q).toNat from by rw [eU51]; exact Xi_ne (by omega)))
              have w1022 : Xi U52 975 (q).toNat = Xi S 975 (q).toNat := (show Xi U52 975 (q).toNat = Xi U51 975 (q).toNat from by rw [eU52]; exact Xi_ne (by omega)).trans ((show Xi U51 975 (q).toNat = Xi S 975 (q).toNat from by rw [eU51]; exact Xi_ne (by omega)))
              have w1023 : Xi U52 976 (p).toNat = Xi U51 976 (p).toNat := (show Xi U52 976 (p).toNat = Xi U51 976 (p).toNat from by rw [eU52]; exact Xi_ne (by omega))
              have w1024 : Xi U52 904 106 = Xi S 904 106 := (show Xi U52 904 106 = Xi U51 904 106 from by rw [eU52]; exact Xi_ne (by omega)).trans ((show Xi U51 904 106 = Xi S 904 106 from by rw [eU51]; exact Xi_ne (by omega)))
              have w1026 : Xi U52 904 115 = Xi S 904 115 := (show Xi U52 904 115 = Xi U51 904 115 from by rw [eU52]; exact Xi_ne (by omega)).trans ((show Xi U51 904 115 = Xi S 904 115 from by rw [eU51]; exact Xi_ne (by omega)))
              have w1028 : Xi U52 904 128 = Xi S 904 128 := (show Xi U52 904 128 = Xi U51 904 128 from by rw [eU52]; exact Xi_ne (by omega)).trans ((show Xi U51 904 128 = Xi S 904 128 from by rw [eU51]; exact Xi_ne (by omega)))
              have w1030 : Xi U52 904 129 = Xi S 904 129 := (show Xi U52 904 129 = Xi U51 904 129 from by rw [eU52]; exact Xi_ne (by omega)).trans ((show Xi U51 904 129 = Xi S 904 129 from by rw [eU51]; exact Xi_ne (by omega)))
              have w1032 : Xi U52 904 69 = Xi S 904 69 := (show Xi U52 904 69 = Xi U51 904 69 from by rw [eU52]; exact Xi_ne (by omega)).trans ((show Xi U51 904 69 = Xi S 904 69 from by rw [eU51]; exact Xi_ne (by omega)))
              exact Rl_weak (C347 U52 hHU52 hFU52 ((Xi S 964 ((i).toNat))) (by omega) ((KQ.w (KQ.w KQ.rf eU51 (by omega)) eU52 (by omega))) ((by assumption : KH U52 _ _)) (by omega) (by omega) (by omega) (by omega) (by omega) (by omega) (by omega)) (And.intro rfl (And.intro rfl (And.intro rfl (True.intro))))
          · have w1034 : Xi U52 970 (q).toNat = Xi S 970 (q).toNat := (show Xi U52 970 (q).toNat = Xi U51 970 (q).toNat from by rw [eU52]; exact Xi_ne (by omega)).trans ((show Xi U51 970 (q).toNat = Xi S 970 (q).toNat from by rw [eU51]; exact Xi_ne (by omega)))
            have w1035 : Xi U52 971 (q).toNat = Xi S 971 (q).toNat := (show Xi U52 971 (q).toNat = Xi U51 971 (q).toNat from by rw [eU52]; exact Xi_ne (by omega)).trans ((show Xi U51 971 (q).toNat = Xi S 971 (q).toNat from by rw [eU51]; exact Xi_ne (by omega)))
            have w1036 : Xi U52 972 (q).toNat = Xi S 972 (q).toNat := (show Xi U52 972 (q).toNat = Xi U51 972 (q).toNat from by rw [eU52]; exact Xi_ne (by omega)).trans ((show Xi U51 972 (q).toNat = Xi S 972 (q).toNat from by rw [eU51]; exact Xi_ne (by omega)))
            have w1037 : Xi U52 973 (q).toNat = Xi S 973 (q).toNat := (show Xi U52 973 (q).toNat = Xi U51 973 (q).toNat from by rw [eU52]; exact Xi_ne (by omega)).trans ((show Xi U51 973 (q).toNat = Xi S 973 (q).toNat from by rw [eU51]; exact Xi_ne (by omega)))
            have w1038 : Xi U52 974 (q).toNat = Xi S 974 (q).toNat := (show Xi U52 974 (q).toNat = Xi U51 974 (q).toNat from by rw [eU52]; exact Xi_ne (by omega)).trans ((show Xi U51 974 (q).toNat = Xi S 974 (q).toNat from by rw [eU51]; exact Xi_ne (by omega)))
            have w1039 : Xi U52 975 (q).toNat = Xi S 975 (q).toNat := (show Xi U52 975 (q).toNat = Xi U51 975 (q).toNat from by rw [eU52]; exact Xi_ne (by omega)).trans ((show Xi U51 975 (q).toNat = Xi S 975 (q).toNat from by rw [eU51]; exact Xi_ne (by omega)))
            have w1040 : Xi U52 976 (p).toNat = Xi U51 976 (p).toNat := (show Xi U52 976 (p).toNat = Xi U51 976 (p).toNat from by rw [eU52]; exact Xi_ne (by omega))
            have w1041 : Xi U52 904 106 = Xi S 904 106 := (show Xi U52 904 106 = Xi U51 904 106 from by rw [eU52]; exact Xi_ne (by omega)).trans ((show Xi U51 904 106 = Xi S 904 106 from by rw [eU51]; exact Xi_ne (by omega)))
            have w1043 : Xi U52 904 115 = Xi S 904 115 := (show Xi U52 904 115 = Xi U51 904 115 from by rw [eU52]; exact Xi_ne (by omega)).trans ((show Xi U51 904 115 = Xi S 904 115 from by rw [eU51]; exact Xi_ne (by omega)))
            have w1045 : Xi U52 904 128 = Xi S 904 128 := (show Xi U52 904 128 = Xi U51 904 128 from by rw [eU52]; exact Xi_ne (by omega)).trans ((show Xi U51 904 128 = Xi S 904 128 from by rw [eU51]; exact Xi_ne (by omega)))
            have w1047 : Xi U52 904 129 = Xi S 904 129 := (show Xi U52 904 129 = Xi U51 904 129 from by rw [eU52]; exact Xi_ne (by omega)).trans ((show Xi U51 904 129 = Xi S 904 129 from by rw [eU51]; exact Xi_ne (by omega)))
            have w1049 : Xi U52 904 69 = Xi S 904 69 := (show Xi U52 904 69 = Xi U51 904 69 from by rw [eU52]; exact Xi_ne (by omega)).trans ((show Xi U51 904 69 = Xi S 904 69 from by rw [eU51]; exact Xi_ne (by omega)))
            exact Rl_weak (C257 U52 hHU52 hFU52 ((Xi S 964 ((i).toNat))) (by omega) ((KQ.w (KQ.w KQ.rf eU51 (by omega)) eU52 (by omega))) ((by assumption : KH U52 _ _)) (by omega) (by omega) (by omega) (by omega) (by omega) (by omega) (by omega)) (And.intro rfl (And.intro rfl (And.intro rfl (True.intro))))
      · have w1051 : Xi U52 970 (q).toNat = Xi S 970 (q).toNat := (show Xi U52 970 (q).toNat = Xi U51 970 (q).toNat from by rw [eU52]; exact Xi_ne (by omega)).trans ((show Xi U51 970 (q).toNat = Xi S 970 (q).toNat from by rw [eU51]; exact Xi_ne (by omega)))
        have w1052 : Xi U52 971 (q).toNat = Xi S 971 (q).toNat := (show Xi U52 971 (q).toNat = Xi U51 971 (q).toNat from by rw [eU52]; exact Xi_ne (by omega)).trans ((show Xi U51 971 (q).toNat = Xi S 971 (q).toNat from by rw [eU51]; exact Xi_ne (by omega)))
        have w1053 : Xi U52 972 (q).toNat = Xi S 972 (q).toNat := (show Xi U52 972 (q).toNat = Xi U51 972 (q).toNat from by rw [eU52]; exact Xi_ne (by omega)).trans ((show Xi U51 972 (q).toNat = Xi S 972 (q).toNat from by rw [eU51]; exact Xi_ne (by omega)))
        have w1054 : Xi U52 973 (q).toNat = Xi S 973 (q).toNat := (show Xi U52 973 (q).toNat = Xi U51 973 (q).toNat from by rw [eU52]; exact Xi_ne (by omega)).trans ((show Xi U51 973 (q).toNat = Xi S 973 (q).toNat from by rw [eU51]; exact Xi_ne (by omega)))
        have w1055 : Xi U52 974 (q).toNat = Xi S 974 (q).toNat := (show Xi U52 974 (q).toNat = Xi U51 974 (q).toNat from by rw [eU52]; exact Xi_ne (by omega)).trans ((show Xi U51 974 (q).toNat = Xi S 974 (q).toNat from by rw [eU51]; exact Xi_ne (by omega)))
        have w1056 : Xi U52 975 (q).toNat = Xi S 975 (q).toNat := (show Xi U52 975 (q).toNat = Xi U51 975 (q).toNat from by rw [eU52]; exact Xi_ne (by omega)).trans ((show Xi U51 975 (q).toNat = Xi S 975 (q).toNat from by rw [eU51]; exact Xi_ne (by omega)))
        have w1057 : Xi U52 976 (p).toNat = Xi U51 976 (p).toNat := (show Xi U52 976 (p).toNat = Xi U51 976 (p).toNat from by rw [eU52]; exact Xi_ne (by omega))
        have w1058 : Xi U52 904 106 = Xi S 904 106 := (show Xi U52 904 106 = Xi U51 904 106 from by rw [eU52]; exact Xi_ne (by omega)).trans ((show Xi U51 904 106 = Xi S 904 106 from by rw [eU51]; exact Xi_ne (by omega)))
        have w1060 : Xi U52 904 115 = Xi S 904 115 := (show Xi U52 904 115 = Xi U51 904 115 from by rw [eU52]; exact Xi_ne (by omega)).trans ((show Xi U51 904 115 = Xi S 904 115 from by rw [eU51]; exact Xi_ne (by omega)))
        have w1062 : Xi U52 904 128 = Xi S 904 128 := (show Xi U52 904 128 = Xi U51 904 128 from by rw [eU52]; exact Xi_ne (by omega)).trans ((show Xi U51 904 128 = Xi S 904 128 from by rw [eU51]; exact Xi_ne (by omega)))
        have w1064 : Xi U52 904 129 = Xi S 904 129 := (show Xi U52 904 129 = Xi U51 904 129 from by rw [eU52]; exact Xi_ne (by omega)).trans ((show Xi U51 904 129 = Xi S 904 129 from by rw [eU51]; exact Xi_ne (by omega)))
        have w1066 : Xi U52 904 69 = Xi S 904 69 := (show Xi U52 904 69 = Xi U51 904 69 from by rw [eU52]; exact Xi_ne (by omega)).trans ((show Xi U51 904 69 = Xi S 904 69 from by rw [eU51]; exact Xi_ne (by omega)))
        exact Rl_weak (C136 U52 hHU52 hFU52 ((Xi S 964 ((i).toNat))) (by omega) ((KQ.w (KQ.w KQ.rf eU51 (by omega)) eU52 (by omega))) ((by assumption : KH U52 _ _)) (by omega) (by omega) (by omega) (by omega) (by omega) (by omega) (by omega)) (And.intro rfl (And.intro rfl (And.intro rfl (True.intro))))
    · have w1068 : Xi U52 970 (q).toNat = Xi S 970 (q).toNat := (show Xi U52 970 (q).toNat = Xi U51 970 (q).toNat from by rw [eU52]; exact Xi_ne (by omega)).trans ((show Xi U51 970 (q).toNat = Xi S 970 (q).toNat from by rw [eU51]; exact Xi_ne (by omega)))
      have w1069 : Xi U52 971 (q).toNat = Xi S 971 (q).toNat := (show Xi U52 971 (q).toNat = Xi U51 971 (q).toNat from by rw [eU52]; exact Xi_ne (by omega)).trans ((show Xi U51 971 (q).toNat = Xi S 971 (q).toNat from by rw [eU51]; exact Xi_ne (by omega)))
      have w1070 : Xi U52 972 (q).toNat = Xi S 972 (q).toNat := (show Xi U52 972 (q).toNat = Xi U51 972 (q).toNat from by rw [eU52]; exact Xi_ne (by omega)).trans ((show Xi U51 972 (q).toNat = Xi S 972 (q).toNat from by rw [eU51]; exact Xi_ne (by omega)))
      have w1071 : Xi U52 973 (q).toNat = Xi S 973 (q).toNat := (show Xi U52 973 (q).toNat = Xi U51 973 (q).toNat from by rw [eU52]; exact Xi_ne (by omega)).trans ((show Xi U51 973 (q).toNat = Xi S 973 (q).toNat from by rw [eU51]; exact Xi_ne (by omega)))
      have w1072 : Xi U52 974 (q).toNat = Xi S 974 (q).toNat := (show Xi U52 974 (q).toNat = Xi U51 974 (q).toNat from by rw [eU52]; exact Xi_ne (by omega)).trans ((show Xi U51 974 (q).toNat = Xi S 974 (q).toNat from by rw [eU51]; exact Xi_ne (by omega)))
      have w1073 : Xi U52 975 (q).toNat = Xi S 975 (q).toNat := (show Xi U52 975 (q).toNat = Xi U51 975 (q).toNat from by rw [eU52]; exact Xi_ne (by omega)).trans ((show Xi U51 975 (q).toNat = Xi S 975 (q).toNat from by rw [eU51]; exact Xi_ne (by omega)))
      have w1074 : Xi U52 976 (p).toNat = Xi U51 976 (p).toNat := (show Xi U52 976 (p).toNat = Xi U51 976 (p).toNat from by rw [eU52]; exact Xi_ne (by omega))
      have w1075 : Xi U52 904 106 = Xi S 904 106 := (show Xi U52 904 106 = Xi U51 904 106 from by rw [eU52]; exact Xi_ne (by omega)).trans ((show Xi U51 904 106 = Xi S 904 106 from by rw [eU51]; exact Xi_ne (by omega)))
      have w1077 : Xi U52 904 115 = Xi S 904 115 := (show Xi U52 904 115 = Xi U51 904 115 from by rw [eU52]; exact Xi_ne (by omega)).trans ((show Xi U51 904 115 = Xi S 904 115 from by rw [eU51]; exact Xi_ne (by omega)))
      have w1079 : Xi U52 904 128 = Xi S 904 128 := (show Xi U52 904 128 = Xi U51 904 128 from by rw [eU52]; exact Xi_ne (by omega)).trans ((show Xi U51 904 128 = Xi S 904 128 from by rw [eU51]; exact Xi_ne (by omega)))
      have w1081 : Xi U52 904 129 = Xi S 904 129 := (show Xi U52 904 129 = Xi U51 904 129 from by rw [eU52]; exact Xi_ne (by omega)).trans ((show Xi U51 904 129 = Xi S 904 129 from by rw [eU51]; exact Xi_ne (by omega)))
      have w1083 : Xi U52 904 69 = Xi S 904 69 := (show Xi U52 904 69 = Xi U51 904 69 from by rw [eU52]; exact Xi_ne (by omega)).trans ((show Xi U51 904 69 = Xi S 904 69 from by rw [eU51]; exact Xi_ne (by omega)))
      exact Rl_weak (C115 U52 hHU52 hFU52 ((Xi S 964 ((i).toNat))) (by omega) ((KQ.w (KQ.w KQ.rf eU51 (by omega)) eU52 (by omega))) ((by assumption : KH U52 _ _)) (by omega) (by omega) (by omega) (by omega) (by omega) (by omega) (by omega)) (And.intro rfl (And.intro rfl (And.intro rfl (True.intro))))
  · have w1085 : Xi U52 970 (q).toNat = Xi S 970 (q).toNat := (show Xi U52 970 (q).toNat = Xi U51 970 (q).toNat from by rw [eU52]; exact Xi_ne (by omega)).trans ((show Xi U51 970 (q).toNat = Xi S 970 (q).toNat from by rw [eU51]; exact Xi_ne (by omega)))
    have w1086 : Xi U52 971 (q).toNat = Xi S 971 (q).toNat := (show Xi U52 971 (q).toNat = Xi U51 971 (q).toNat from by rw [eU52]; exact Xi_ne (by omega)).trans ((show Xi U51 971 (q).toNat = Xi S 971 (q).toNat from by rw [eU51]; exact Xi_ne (by omega)))
    have w1087 : Xi U52 972 (q).toNat = Xi S 972 (q).toNat := (show Xi U52 972 (q).toNat = Xi U51 972 (q).toNat from by rw [eU52]; exact Xi_ne (by omega)).trans ((show Xi U51 972 (q).toNat = Xi S 972 (q).toNat from by rw [eU51]; exact Xi_ne (by omega)))
    have w1088 : Xi U52 973 (q).toNat = Xi S 973 (q).toNat := (show Xi U52 973 (q).toNat = Xi U51 973 (q).toNat from by rw [eU52]; exact Xi_ne (by omega)).trans ((show Xi U51 973 (q).toNat = Xi S 973 (q).toNat from by rw [eU51]; exact Xi_ne (by omega)))
    have w1089 : Xi U52 974 (q).toNat = Xi S 974 (q).toNat := (show Xi U52 974 (q).toNat = Xi U51 974 (q).toNat from by rw [eU52]; exact Xi_ne (by omega)).trans ((show Xi U51 974 (q).toNat = Xi S 974 (q).toNat from by rw [eU51]; exact Xi_ne (by omega)))
    have w1090 : Xi U52 975 (q).toNat = Xi S 975 (q).toNat := (show Xi U52 975 (q).toNat = Xi U51 975 (q).toNat from by rw [eU52]; exact Xi_ne (by omega)).trans ((show Xi U51 975 (q).toNat = Xi S 975 (q).toNat from by rw [eU51]; exact Xi_ne (by omega)))
    have w1091 : Xi U52 976 (p).toNat = Xi U51 976 (p).toNat := (show Xi U52 976 (p).toNat = Xi U51 976 (p).toNat from by rw [eU52]; exact Xi_ne (by omega))
    have w1092 : Xi U52 904 106 = Xi S 904 106 := (show Xi U52 904 106 = Xi U51 904 106 from by rw [eU52]; exact Xi_ne (by omega)).trans ((show Xi U51 904 106 = Xi S 904 106 from by rw [eU51]; exact Xi_ne (by omega)))
    have w1094 : Xi U52 904 115 = Xi S 904 115 := (show Xi U52 904 115 = Xi U51 904 115 from by rw [eU52]; exact Xi_ne (by omega)).trans ((show Xi U51 904 115 = Xi S 904 115 from by rw [eU51]; exact Xi_ne (by omega)))
    have w1096 : Xi U52 904 128 = Xi S 904 128 := (show Xi U52 904 128 = Xi U51 904 128 from by rw [eU52]; exact Xi_ne (by omega)).trans ((show Xi U51 904 128 = Xi S 904 128 from by rw [eU51]; exact Xi_ne (by omega)))
    have w1098 : Xi U52 904 129 = Xi S 904 129 := (show Xi U52 904 129 = Xi U51 904 129 from by rw [eU52]; exact Xi_ne (by omega)).trans ((show Xi U51 904 129 = Xi S 904 129 from by rw [eU51]; exact Xi_ne (by omega)))
    have w1100 : Xi U52 904 69 = Xi S 904 69 := (show Xi U52 904 69 = Xi U51 904 69 from by rw [eU52]; exact Xi_ne (by omega)).trans ((show Xi U51 904 69 = Xi S 904 69 from by rw [eU51]; exact Xi_ne (by omega)))
    exact Rl_weak (C36 U52 hHU52 hFU52 ((Xi S 964 ((i).toNat))) (by omega) ((KQ.w (KQ.w KQ.rf eU51 (by omega)) eU52 (by omega))) ((by assumption : KH U52 _ _)) (by omega) (by omega) (by omega) (by omega) (by omega) (by omega) (by omega)) (And.intro rfl (And.intro rfl (And.intro rfl (True.intro))))


