/-! SAFETY of methods: printed by wip/safe (vc.py, decl.py) -/
set_option maxRecDepth 100000 in
set_option maxHeartbeats 8000000 in
theorem c358_mo_asked {S : sS} (hH : HI S) (n : Nat) (dd : Nat) (first : Int) (hfirst : 0 ≤ first ∧ first ≤ 5001) (hT : TK S n) (hv : RNV S n) (hM : LXM S) (hB : ABV S) (hC : DCM S) (hK : TXK S n) (hX : TXM S) (hq : SNQ S n) (hap : AP9 S n) (h94 : Xi S 904 94 ≤ 1668) (hRD : RDT S) (hPF : PF S) (hdt : Xi S 904 70 = 20 → first ≤ dd ∧ dd < n ∧ Xi S 907 dd = 46) (d : Nat) : ∀  (T38 : sS) (_ : HI T38) (_ : FR md_mo_asked S T38), (Xi T38 904 117 = Xi S 904 117) → (Xi T38 904 60 = Xi S 904 60) → (Xi T38 904 69 = Xi S 904 69) → (Xi T38 904 70 = Xi S 904 70) → (Xi T38 904 71 = Xi S 904 71) → (Xi T38 904 72 = Xi S 904 72) → (Xi T38 904 73 = Xi S 904 73) → (Xi T38 904 74 = Xi S 904 74) → (Xi T38 904 78 = Xi S 904 78) → (Xi T38 904 81 = Xi S 904 81) → (Xi T38 904 94 = Xi S 904 94) → (Xi T38 904 98 = Xi S 904 98) → (NWV T38) → (RDT T38) → (Xi S 904 70 = 17) → (3 ≤ Xi S 904 69) → (Xi T38 904 108 = 0) → (Xi T38 904 106 = 0 → rnR S 0 0 ≠ -1 ∧ r2R S 1 2 3 ≠ -1) → Rl lay0 (d + 12) m_mo_asked 358 [(0, .ref 904)] [] T38 (Q_mo_asked S n dd first) := by
  have hF : FR md_mo_asked S S := FR.rf
  have w1 : 0 ≤ Xi S 904 106 ∧ Xi S 904 106 ≤ 9 := hH.c _ _
  have w2 : 0 ≤ Xi S 904 108 ∧ Xi S 904 108 ≤ 2600 := hH.c _ _
  have w3 : -1 ≤ Xi S 904 115 ∧ Xi S 904 115 ≤ 15 := hH.c _ _
  have w4 : -1 ≤ Xi S 904 116 ∧ Xi S 904 116 ≤ 15 := hH.c _ _
  have w5 : 0 ≤ Xi S 904 117 ∧ Xi S 904 117 ≤ 480 := hH.c _ _
  have w6 : 0 ≤ Xi S 904 23 ∧ Xi S 904 23 ≤ 24 := hH.c _ _
  have w7 : 0 ≤ Xi S 904 41 ∧ Xi S 904 41 ≤ 6 := hH.c _ _
  have w8 : -1 ≤ Xi S 904 60 ∧ Xi S 904 60 ≤ 23 := hH.c _ _
  have w9 : 0 ≤ Xi S 904 69 ∧ Xi S 904 69 ≤ 2600 := hH.c _ _
  have w10 : 0 ≤ Xi S 904 70 ∧ Xi S 904 70 ≤ 20 := hH.c _ _
  have w11 : 0 ≤ Xi S 904 71 ∧ Xi S 904 71 ≤ 2600 := hH.c _ _
  have w12 : 0 ≤ Xi S 904 72 ∧ Xi S 904 72 ≤ 2600 := hH.c _ _
  have w13 : 0 ≤ Xi S 904 73 ∧ Xi S 904 73 ≤ 5 := hH.c _ _
  have w14 : 0 ≤ Xi S 904 74 ∧ Xi S 904 74 ≤ 2600 := hH.c _ _
  have w15 : -2 ≤ Xi S 904 78 ∧ Xi S 904 78 ≤ 5010 := hH.c _ _
  have w16 : 0 ≤ Xi S 904 81 ∧ Xi S 904 81 ≤ 5010 := hH.c _ _
  have w17 : 0 ≤ Xi S 904 94 ∧ Xi S 904 94 ≤ 1700 := hH.c _ _
  have w18 : 0 ≤ Xi S 904 98 ∧ Xi S 904 98 ≤ 1700 := hH.c _ _
  have w19 : 0 ≤ Xi S 951 0 ∧ Xi S 951 0 ≤ 5010 := hH.c _ _
  have w20 : 0 ≤ Xi S 951 1 ∧ Xi S 951 1 ≤ 5010 := hH.c _ _
  have hn5 := hT.1
  have hc69 : 0 ≤ Xi S 904 69 ∧ Xi S 904 69 ≤ 2600 := hH.c _ _
  have hc70 : 0 ≤ Xi S 904 70 ∧ Xi S 904 70 ≤ 20 := hH.c _ _
  have hc23 : 0 ≤ Xi S 904 23 ∧ Xi S 904 23 ≤ 24 := hH.c _ _
  have hrf : ∀ r : Int, 0 ≤ r → r < Xi S 904 69 → Xi S 950 r.toNat + Xi S 951 r.toNat ≤ n ∧ 1 ≤ Xi S 951 r.toNat := fun r a b => hv r.toNat (by omega)
  have hq0 : KQL S S (Xi S 904 117) := KQL.rf
  intro T38 hHT38 hFT38 w1907 w1908 w1909 w1910 w1911 w1912 w1913 w1914 w1915 w1916 w1917 w1918 N358 R358 w1919 w1920 w1921 E358
  have w1922 : Xi T38 904 102 = Xi S 904 102 := hFT38.x _ _ rfl
  have w1923 : Xi T38 904 103 = Xi S 904 103 := hFT38.x _ _ rfl
  have w1924 : Xi T38 904 16 = Xi S 904 16 := hFT38.x _ _ rfl
  have w1925 : Xi T38 904 18 = Xi S 904 18 := hFT38.x _ _ rfl
  have w1926 : Xi T38 904 19 = Xi S 904 19 := hFT38.x _ _ rfl
  have w1927 : Xi T38 904 23 = Xi S 904 23 := hFT38.x _ _ rfl
  have w1928 : Xi T38 904 30 = Xi S 904 30 := hFT38.x _ _ rfl
  have w1929 : Xi T38 904 41 = Xi S 904 41 := hFT38.x _ _ rfl
  have w1930 : Xi T38 904 47 = Xi S 904 47 := hFT38.x _ _ rfl
  have w1931 : Xi T38 904 49 = Xi S 904 49 := hFT38.x _ _ rfl
  have w1932 : Xi T38 904 55 = Xi S 904 55 := hFT38.x _ _ rfl
  have w1933 : Xi T38 904 60 = Xi S 904 60 := hFT38.x _ _ rfl
  have w1934 : Xi T38 904 69 = Xi S 904 69 := hFT38.x _ _ rfl
  have w1935 : Xi T38 904 70 = Xi S 904 70 := hFT38.x _ _ rfl
  have w1936 : Xi T38 904 71 = Xi S 904 71 := hFT38.x _ _ rfl
  have w1937 : Xi T38 904 72 = Xi S 904 72 := hFT38.x _ _ rfl
  have w1938 : Xi T38 904 73 = Xi S 904 73 := hFT38.x _ _ rfl
  have w1939 : Xi T38 904 74 = Xi S 904 74 := hFT38.x _ _ rfl
  have w1940 : Xi T38 904 78 = Xi S 904 78 := hFT38.x _ _ rfl
  have w1941 : Xi T38 904 81 = Xi S 904 81 := hFT38.x _ _ rfl
  have w1942 : Xi T38 904 94 = Xi S 904 94 := hFT38.x _ _ rfl
  have w1943 : Xi T38 904 98 = Xi S 904 98 := hFT38.x _ _ rfl
  have w1944 : Xi T38 951 0 = Xi S 951 0 := hFT38.x _ _ rfl
  have w1945 : Xi T38 951 1 = Xi S 951 1 := hFT38.x _ _ rfl
  have w1946 : 0 ≤ Xi T38 904 106 ∧ Xi T38 904 106 ≤ 9 := hHT38.c _ _
  have w1947 : 0 ≤ Xi T38 904 108 ∧ Xi T38 904 108 ≤ 2600 := hHT38.c _ _
  have w1948 : 0 ≤ Xi T38 904 117 ∧ Xi T38 904 117 ≤ 480 := hHT38.c _ _
  have w1949 : -1 ≤ Xi T38 904 60 ∧ Xi T38 904 60 ≤ 23 := hHT38.c _ _
  have w1950 : 0 ≤ Xi T38 904 69 ∧ Xi T38 904 69 ≤ 2600 := hHT38.c _ _
  have w1951 : 0 ≤ Xi T38 904 70 ∧ Xi T38 904 70 ≤ 20 := hHT38.c _ _
  have w1952 : 0 ≤ Xi T38 904 71 ∧ Xi T38 904 71 ≤ 2600 := hHT38.c _ _
  have w1953 : 0 ≤ Xi T38 904 72 ∧ Xi T38 904 72 ≤ 2600 := hHT38.c _ _
  have w1954 : 0 ≤ Xi T38 904 73 ∧ Xi T38 904 73 ≤ 5 := hHT38.c _ _
  have w1955 : 0 ≤ Xi T38 904 74 ∧ Xi T38 904 74 ≤ 2600 := hHT38.c _ _
  have w1956 : -2 ≤ Xi T38 904 78 ∧ Xi T38 904 78 ≤ 5010 := hHT38.c _ _
  have w1957 : 0 ≤ Xi T38 904 81 ∧ Xi T38 904 81 ≤ 5010 := hHT38.c _ _
  have w1958 : 0 ≤ Xi T38 904 94 ∧ Xi T38 904 94 ≤ 1700 := hHT38.c _ _
  have w1959 : 0 ≤ Xi T38 904 98 ∧ Xi T38 904 98 ≤ 1700 := hHT38.c _ _
  refine l_aload_n rfl rfl ?_
  have z358_2 : Xi S 950 2 + Xi S 951 2 ≤ n ∧ 1 ≤ Xi S 951 2 := hv 2 (by omega)
  refine l_iconst rfl ?_
  have w1962 : -1 ≤ Xi T38 904 115 ∧ Xi T38 904 115 ≤ 15 := hHT38.c _ _
  have w1963 : -1 ≤ Xi T38 904 116 ∧ Xi T38 904 116 ≤ 15 := hHT38.c _ _
  have w1965 : 0 ≤ Xi T38 904 142 ∧ Xi T38 904 142 ≤ 4 := hHT38.c _ _
  refine l_callV rfl rfl rfl (t_mo_meansNothing__2 hHT38 n 2 ⟨by omega, by omega⟩ (by first | assumption | exact (TK_FR hFT38 rfl (by assumption : TK S _))) (by first | assumption | exact (RNV_FR hFT38 rfl (by assumption : RNV S _))) (by first | assumption | omega) _) ?_
  rintro _ _ ⟨rfl, z1978, rfl, w1978, w1977⟩
  show Rl _ _ _ _ _ [iv z1978] _ _
  have m360 : (z1978 = 1 → rmR S 2 = -1) := fun x => by have t := (by assumption : (z1978 = 1 → rmR T38 2 = -1) ∧ _).1 x; rw [rmR_FR hFT38 rfl rfl] at t; exact t
  refine l_if_eq rfl rfl (by unfold rg; omega) (fun w1979 => ?_) (fun w1980 => ?_)
  · refine l_aload_n rfl rfl ?_
    refine l_aload_n rfl rfl ?_
    refine l_iconst rfl ?_
    refine l_bipush rfl rfl ?_
    refine l_callV rfl rfl rfl (t_mo_meansRun__2 hHT38 n 2 7 ⟨by omega, by omega⟩ ⟨by omega, by omega⟩ (by first | assumption | exact (TK_FR hFT38 rfl (by assumption : TK S _))) (by first | assumption | exact (RNV_FR hFT38 rfl (by assumption : RNV S _))) (by first | assumption | omega) (by first | assumption | exact (LXM_FR hFT38 rfl (by assumption : LXM S))) _) ?_
    rintro _ _ ⟨rfl, z2000, rfl, w2000, w1998, w1999⟩
    show Rl _ _ _ _ _ [iv z2000, .ref 904] _ _
    have r385 : z2000 = rnR S 2 7 := (by assumption : z2000 = rnR T38 _ _).trans (rnR_FR hFT38 rfl rfl)
    refine l_iconst rfl ?_
    refine l_icmp_eq rfl rfl (by unfold rg; omega) (by unfold rg; omega) (fun w2001 => ?_) (fun w2002 => ?_)
    · refine l_iconst rfl ?_
      refine l_iconst rfl ?_
      refine l_aload_n rfl rfl ?_
      refine l_gfr rfl rfl rfl rfl rfl (hHT38.r 904 67 950 rfl) ?_
      refine l_iconst rfl ?_
      refine l_iaload (n := 2600) rfl rfl (by omega) (by omega) (by unfold rg; omega) ?_
      have w2003 : 0 ≤ (Xi T38 950 ((2 : Int).toNat)) ∧ (Xi T38 950 ((2 : Int).toNat)) ≤ 5010 := hHT38.c _ _
      have w2004 : (Xi T38 950 ((2 : Int).toNat)) = Xi T38 950 2 := rfl
      have e403 : (Xi T38 950 ((2 : Int).toNat)) = Xi S 950 2 := by first | rfl | exact (hFT38.cx 950 rfl _).1
      refine l_callV rfl rfl rfl (t_mo_need hHT38 0 4 (Xi T38 950 ((2 : Int).toNat)) ⟨by omega, by omega⟩ ⟨by omega, by omega⟩ ⟨by omega, by omega⟩ _) ?_
      rintro _ T39 ⟨hHT39, w2025, rfl, w2022, w2023⟩
      have hFT39 : FR md_mo_asked S T39 := FR.tr hFT38 w2025 rfl
      show Rl _ _ _ _ _ [] _ _
      have y404_69 : Xi T39 904 69 = Xi T38 904 69 := ((show Xi T39 904 69 = Xi T38 904 69 from w2025.x _ _ rfl))
      have y404_70 : Xi T39 904 70 = Xi T38 904 70 := ((show Xi T39 904 70 = Xi T38 904 70 from w2025.x _ _ rfl))
      have y404_71 : Xi T39 904 71 = Xi T38 904 71 := ((show Xi T39 904 71 = Xi T38 904 71 from w2025.x _ _ rfl))
      have y404_72 : Xi T39 904 72 = Xi T38 904 72 := ((show Xi T39 904 72 = Xi T38 904 72 from w2025.x _ _ rfl))
      have y404_73 : Xi T39 904 73 = Xi T38 904 73 := ((show Xi T39 904 73 = Xi T38 904 73 from w2025.x _ _ rfl))
      have y404_74 : Xi T39 904 74 = Xi T38 904 74 := ((show Xi T39 904 74 = Xi T38 904 74 from w2025.x _ _ rfl))
      have y404_78 : Xi T39 904 78 = Xi T38 904 78 := ((show Xi T39 904 78 = Xi T38 904 78 from w2025.x _ _ rfl))
      have y404_81 : Xi T39 904 81 = Xi T38 904 81 := ((show Xi T39 904 81 = Xi T38 904 81 from w2025.x _ _ rfl))
      have y404_94 : Xi T39 904 94 = Xi T38 904 94 := ((show Xi T39 904 94 = Xi T38 904 94 from w2025.x _ _ rfl))
      have y404_98 : Xi T39 904 98 = Xi T38 904 98 := ((show Xi T39 904 98 = Xi T38 904 98 from w2025.x _ _ rfl))
      have y404_60 : Xi T39 904 60 = Xi T38 904 60 := ((show Xi T39 904 60 = Xi T38 904 60 from w2025.x _ _ rfl))
      have y404_117 : Xi T39 904 117 = Xi T38 904 117 := ((show Xi T39 904 117 = Xi T38 904 117 from w2025.x _ _ rfl))
      have F404 : Xi T39 904 106 = 0 → DOK T39 := fun q => dok_17 (by omega) (⟨by rw [rnR_FR hFT39 rfl rfl]; exact (E358 (by omega)).1, by rw [r2R_FR hFT39 rfl rfl]; exact (E358 (by omega)).2, fun y => absurd y (by rw [rnR_FR hFT39 rfl rfl]; omega)⟩)
      refine l_goto rfl rfl ?_
      refine l_return rfl rfl ?_
      have w2026 : 0 ≤ Xi T39 904 106 ∧ Xi T39 904 106 ≤ 9 := hHT39.c _ _
      exact ⟨hHT39, hFT39, rfl, (by assumption), (by first | exact fun q => by assumption | assumption | exact fun q => (RDT_FR hHT38 w2025 rfl rfl rfl (by assumption : RDT T38)))⟩
    · refine l_iconst rfl ?_
      refine l_goto rfl rfl ?_
      refine l_iconst rfl ?_
      refine l_aload_n rfl rfl ?_
      refine l_gfr rfl rfl rfl rfl rfl (hHT38.r 904 67 950 rfl) ?_
      refine l_iconst rfl ?_
      refine l_iaload (n := 2600) rfl rfl (by omega) (by omega) (by unfold rg; omega) ?_
      have w2060 : 0 ≤ (Xi T38 950 ((2 : Int).toNat)) ∧ (Xi T38 950 ((2 : Int).toNat)) ≤ 5010 := hHT38.c _ _
      have w2061 : (Xi T38 950 ((2 : Int).toNat)) = Xi T38 950 2 := rfl
      have e403 : (Xi T38 950 ((2 : Int).toNat)) = Xi S 950 2 := by first | rfl | exact (hFT38.cx 950 rfl _).1
      refine l_callV rfl rfl rfl (t_mo_need hHT38 1 4 (Xi T38 950 ((2 : Int).toNat)) ⟨by omega, by omega⟩ ⟨by omega, by omega⟩ ⟨by omega, by omega⟩ _) ?_
      rintro _ T40 ⟨hHT40, w2082, rfl, w2079, w2080⟩
      have hFT40 : FR md_mo_asked S T40 := FR.tr hFT38 w2082 rfl
      show Rl _ _ _ _ _ [] _ _
      have y404_69 : Xi T40 904 69 = Xi T38 904 69 := ((show Xi T40 904 69 = Xi T38 904 69 from w2082.x _ _ rfl))
      have y404_70 : Xi T40 904 70 = Xi T38 904 70 := ((show Xi T40 904 70 = Xi T38 904 70 from w2082.x _ _ rfl))
      have y404_71 : Xi T40 904 71 = Xi T38 904 71 := ((show Xi T40 904 71 = Xi T38 904 71 from w2082.x _ _ rfl))
      have y404_72 : Xi T40 904 72 = Xi T38 904 72 := ((show Xi T40 904 72 = Xi T38 904 72 from w2082.x _ _ rfl))
      have y404_73 : Xi T40 904 73 = Xi T38 904 73 := ((show Xi T40 904 73 = Xi T38 904 73 from w2082.x _ _ rfl))
      have y404_74 : Xi T40 904 74 = Xi T38 904 74 := ((show Xi T40 904 74 = Xi T38 904 74 from w2082.x _ _ rfl))
      have y404_78 : Xi T40 904 78 = Xi T38 904 78 := ((show Xi T40 904 78 = Xi T38 904 78 from w2082.x _ _ rfl))
      have y404_81 : Xi T40 904 81 = Xi T38 904 81 := ((show Xi T40 904 81 = Xi T38 904 81 from w2082.x _ _ rfl))
      have y404_94 : Xi T40 904 94 = Xi T38 904 94 := ((show Xi T40 904 94 = Xi T38 904 94 from w2082.x _ _ rfl))
      have y404_98 : Xi T40 904 98 = Xi T38 904 98 := ((show Xi T40 904 98 = Xi T38 904 98 from w2082.x _ _ rfl))
      have y404_60 : Xi T40 904 60 = Xi T38 904 60 := ((show Xi T40 904 60 = Xi T38 904 60 from w2082.x _ _ rfl))
      have y404_117 : Xi T40 904 117 = Xi T38 904 117 := ((show Xi T40 904 117 = Xi T38 904 117 from w2082.x _ _ rfl))
      have F404 : Xi T40 904 106 = 0 → DOK T40 := fun q => dok_17 (by omega) (⟨by rw [rnR_FR hFT40 rfl rfl]; exact (E358 (by omega)).1, by rw [r2R_FR hFT40 rfl rfl]; exact (E358 (by omega)).2, fun y => absurd y (by rw [rnR_FR hFT40 rfl rfl]; omega)⟩)
      refine l_goto rfl rfl ?_
      refine l_return rfl rfl ?_
      have w2083 : 0 ≤ Xi T40 904 106 ∧ Xi T40 904 106 ≤ 9 := hHT40.c _ _
      exact ⟨hHT40, hFT40, rfl, (by assumption), (by first | exact fun q => by assumption | assumption | exact fun q => (RDT_FR hHT38 w2082 rfl rfl rfl (by assumption : RDT T38)))⟩
  · refine l_aload_n rfl rfl ?_
    refine l_iconst rfl ?_
    refine l_aload_n rfl rfl ?_
    refine l_gfi rfl rfl rfl rfl rfl ?_
    have w2117 : 0 ≤ (Xi T38 904 32) ∧ (Xi T38 904 32) ≤ 12 := hHT38.c _ _
    refine l_bipush rfl rfl ?_
    refine l_callV rfl rfl rfl (t_mo_mustBeNew__2 hHT38 n 2 (Xi T38 904 32) 12 ⟨by omega, by omega⟩ ⟨by omega, by omega⟩ ⟨by omega, by omega⟩ (by first | assumption | exact (TK_FR hFT38 rfl (by assumption : TK S _))) (by first | assumption | exact (RNV_FR hFT38 rfl (by assumption : RNV S _))) (by first | assumption | omega) (by first | assumption | exact fun k hk => absurd hk (by omega) | exact (by assumption : NWV T38)) (by first | assumption | omega) _) ?_
    rintro _ T41 ⟨hHT41, w2140, rfl, w2135, g374, w2136, w2137, w2138⟩
    have hFT41 : FR md_mo_asked S T41 := FR.tr hFT38 w2140 rfl
    show Rl _ _ _ _ _ [] _ _
    have y374_69 : Xi T41 904 69 = Xi T38 904 69 := ((show Xi T41 904 69 = Xi T38 904 69 from w2140.x _ _ rfl))
    have y374_70 : Xi T41 904 70 = Xi T38 904 70 := ((show Xi T41 904 70 = Xi T38 904 70 from w2140.x _ _ rfl))
    have y374_71 : Xi T41 904 71 = Xi T38 904 71 := ((show Xi T41 904 71 = Xi T38 904 71 from w2140.x _ _ rfl))
    have y374_72 : Xi T41 904 72 = Xi T38 904 72 := ((show Xi T41 904 72 = Xi T38 904 72 from w2140.x _ _ rfl))
    have y374_73 : Xi T41 904 73 = Xi T38 904 73 := ((show Xi T41 904 73 = Xi T38 904 73 from w2140.x _ _ rfl))
    have y374_74 : Xi T41 904 74 = Xi T38 904 74 := ((show Xi T41 904 74 = Xi T38 904 74 from w2140.x _ _ rfl))
    have y374_78 : Xi T41 904 78 = Xi T38 904 78 := ((show Xi T41 904 78 = Xi T38 904 78 from w2140.x _ _ rfl))
    have y374_81 : Xi T41 904 81 = Xi T38 904 81 := ((show Xi T41 904 81 = Xi T38 904 81 from w2140.x _ _ rfl))
    have y374_94 : Xi T41 904 94 = Xi T38 904 94 := ((show Xi T41 904 94 = Xi T38 904 94 from w2140.x _ _ rfl))
    have y374_98 : Xi T41 904 98 = Xi T38 904 98 := ((show Xi T41 904 98 = Xi T38 904 98 from w2140.x _ _ rfl))
    have y374_60 : Xi T41 904 60 = Xi T38 904 60 := ((show Xi T41 904 60 = Xi T38 904 60 from w2140.x _ _ rfl))
    have y374_117 : Xi T41 904 117 = Xi T38 904 117 := ((show Xi T41 904 117 = Xi T38 904 117 from w2140.x _ _ rfl))
    have G374 : Xi T41 904 106 = 0 → Xi S 904 32 < 12 ∧ Xi S 951 2 ≤ 3 := fun q => (by have t := g374 q; have u := t.2.1; rw [(hFT38.cx 951 rfl _).1] at u; have v : Xi T38 904 32 = Xi S 904 32 := hFT38.x 904 32 rfl; exact ⟨by omega, u⟩)
    have u374_32 : Xi T41 904 32 = Xi S 904 32 := hFT41.x 904 32 rfl
    have F374 : Xi T41 904 106 = 0 → DOK T41 := fun q => dok_17 (by omega) (⟨by rw [rnR_FR hFT41 rfl rfl]; exact (E358 (by omega)).1, by rw [r2R_FR hFT41 rfl rfl]; exact (E358 (by omega)).2, fun _ => ⟨by have t := G374 q; omega, by rw [(hFT41.cx 951 rfl _).1]; exact (G374 q).2⟩⟩)
    refine l_goto rfl rfl ?_
    refine l_return rfl rfl ?_
    have w2141 : 0 ≤ Xi T41 904 106 ∧ Xi T41 904 106 ≤ 9 := hHT41.c _ _
    exact ⟨hHT41, hFT41, rfl, (by assumption), (by first | exact fun q => by assumption | assumption | exact fun q => (RDT_FR hHT38 w2140 rfl rfl rfl (by assumption : RDT T38)))⟩
set_option maxRecDepth 100000 in
set_option maxHeartbeats 8000000 in
theorem c327_mo_asked {S : sS} (hH : HI S) (n : Nat) (dd : Nat) (first : Int) (hfirst : 0 ≤ first ∧ first ≤ 5001) (hT : TK S n) (hv : RNV S n) (hM : LXM S) (hB : ABV S) (hC : DCM S) (hK : TXK S n) (hX : TXM S) (hq : SNQ S n) (hap : AP9 S n) (h94 : Xi S 904 94 ≤ 1668) (hRD : RDT S) (hPF : PF S) (hdt : Xi S 904 70 = 20 → first ≤ dd ∧ dd < n ∧ Xi S 907 dd = 46) (d : Nat) : ∀  (T42 : sS) (_ : HI T42) (_ : FR md_mo_asked S T42), (Xi T42 904 117 = Xi S 904 117) → (Xi T42 904 69 = Xi S 904 69) → (Xi T42 904 70 = Xi S 904 70) → (Xi T42 904 71 = Xi S 904 71) → (Xi T42 904 72 = Xi S 904 72) → (Xi T42 904 73 = Xi S 904 73) → (Xi T42 904 74 = Xi S 904 74) → (Xi T42 904 78 = Xi S 904 78) → (Xi T42 904 81 = Xi S 904 81) → (Xi T42 904 94 = Xi S 904 94) → (Xi T42 904 98 = Xi S 904 98) → (Xi T42 904 60 = Xi S 904 60) → (Xi T42 904 106 = 0) → (Xi T42 904 108 = 0) → (Xi T42 904 115 = -1) → (Xi T42 904 116 = -1) → (SNQ T42 n) → (RDT T42) → (KQL T42 S (Xi S 904 117)) → (Xi S 904 70 = 17) → Rl lay0 (d + 12) m_mo_asked 327 [(0, .ref 904)] [] T42 (Q_mo_asked S n dd first) := by
  have C358 := c358_mo_asked hH n dd first hfirst hT hv hM hB hC hK hX hq hap h94 hRD hPF hdt d 
  have hF : FR md_mo_asked S S := FR.rf
  have w1 : 0 ≤ Xi S 904 106 ∧ Xi S 904 106 ≤ 9 := hH.c _ _
  have w2 : 0 ≤ Xi S 904 108 ∧ Xi S 904 108 ≤ 2600 := hH.c _ _
  have w3 : -1 ≤ Xi S 904 115 ∧ Xi S 904 115 ≤ 15 := hH.c _ _
  have w4 : -1 ≤ Xi S 904 116 ∧ Xi S 904 116 ≤ 15 := hH.c _ _
  have w5 : 0 ≤ Xi S 904 117 ∧ Xi S 904 117 ≤ 480 := hH.c _ _
  have w6 : 0 ≤ Xi S 904 23 ∧ Xi S 904 23 ≤ 24 := hH.c _ _
  have w7 : 0 ≤ Xi S 904 41 ∧ Xi S 904 41 ≤ 6 := hH.c _ _
  have w8 : -1 ≤ Xi S 904 60 ∧ Xi S 904 60 ≤ 23 := hH.c _ _
  have w9 : 0 ≤ Xi S 904 69 ∧ Xi S 904 69 ≤ 2600 := hH.c _ _
  have w10 : 0 ≤ Xi S 904 70 ∧ Xi S 904 70 ≤ 20 := hH.c _ _
  have w11 : 0 ≤ Xi S 904 71 ∧ Xi S 904 71 ≤ 2600 := hH.c _ _
  have w12 : 0 ≤ Xi S 904 72 ∧ Xi S 904 72 ≤ 2600 := hH.c _ _
  have w13 : 0 ≤ Xi S 904 73 ∧ Xi S 904 73 ≤ 5 := hH.c _ _
  have w14 : 0 ≤ Xi S 904 74 ∧ Xi S 904 74 ≤ 2600 := hH.c _ _
  have w15 : -2 ≤ Xi S 904 78 ∧ Xi S 904 78 ≤ 5010 := hH.c _ _
  have w16 : 0 ≤ Xi S 904 81 ∧ Xi S 904 81 ≤ 5010 := hH.c _ _
  have w17 : 0 ≤ Xi S 904 94 ∧ Xi S 904 94 ≤ 1700 := hH.c _ _
  have w18 : 0 ≤ Xi S 904 98 ∧ Xi S 904 98 ≤ 1700 := hH.c _ _
  have w19 : 0 ≤ Xi S 951 0 ∧ Xi S 951 0 ≤ 5010 := hH.c _ _
  have w20 : 0 ≤ Xi S 951 1 ∧ Xi S 951 1 ≤ 5010 := hH.c _ _
  have hn5 := hT.1
  have hc69 : 0 ≤ Xi S 904 69 ∧ Xi S 904 69 ≤ 2600 := hH.c _ _
  have hc70 : 0 ≤ Xi S 904 70 ∧ Xi S 904 70 ≤ 20 := hH.c _ _
  have hc23 : 0 ≤ Xi S 904 23 ∧ Xi S 904 23 ≤ 24 := hH.c _ _
  have hrf : ∀ r : Int, 0 ≤ r → r < Xi S 904 69 → Xi S 950 r.toNat + Xi S 951 r.toNat ≤ n ∧ 1 ≤ Xi S 951 r.toNat := fun r a b => hv r.toNat (by omega)
  have hq0 : KQL S S (Xi S 904 117) := KQL.rf
  intro T42 hHT42 hFT42 w2174 w2175 w2176 w2177 w2178 w2179 w2180 w2181 w2182 w2183 w2184 w2185 w2186 w2187 w2188 w2189 q20 r20 K20 w2190
  have w2191 : Xi T42 904 102 = Xi S 904 102 := hFT42.x _ _ rfl
  have w2192 : Xi T42 904 103 = Xi S 904 103 := hFT42.x _ _ rfl
  have w2193 : Xi T42 904 16 = Xi S 904 16 := hFT42.x _ _ rfl
  have w2194 : Xi T42 904 18 = Xi S 904 18 := hFT42.x _ _ rfl
  have w2195 : Xi T42 904 19 = Xi S 904 19 := hFT42.x _ _ rfl
  have w2196 : Xi T42 904 23 = Xi S 904 23 := hFT42.x _ _ rfl
  have w2197 : Xi T42 904 30 = Xi S 904 30 := hFT42.x _ _ rfl
  have w2198 : Xi T42 904 41 = Xi S 904 41 := hFT42.x _ _ rfl
  have w2199 : Xi T42 904 47 = Xi S 904 47 := hFT42.x _ _ rfl
  have w2200 : Xi T42 904 49 = Xi S 904 49 := hFT42.x _ _ rfl
  have w2201 : Xi T42 904 55 = Xi S 904 55 := hFT42.x _ _ rfl
  have w2202 : Xi T42 904 60 = Xi S 904 60 := hFT42.x _ _ rfl
  have w2203 : Xi T42 904 69 = Xi S 904 69 := hFT42.x _ _ rfl
  have w2204 : Xi T42 904 70 = Xi S 904 70 := hFT42.x _ _ rfl
  have w2205 : Xi T42 904 71 = Xi S 904 71 := hFT42.x _ _ rfl
  have w2206 : Xi T42 904 72 = Xi S 904 72 := hFT42.x _ _ rfl
  have w2207 : Xi T42 904 73 = Xi S 904 73 := hFT42.x _ _ rfl
  have w2208 : Xi T42 904 74 = Xi S 904 74 := hFT42.x _ _ rfl
  have w2209 : Xi T42 904 78 = Xi S 904 78 := hFT42.x _ _ rfl
  have w2210 : Xi T42 904 81 = Xi S 904 81 := hFT42.x _ _ rfl
  have w2211 : Xi T42 904 94 = Xi S 904 94 := hFT42.x _ _ rfl
  have w2212 : Xi T42 904 98 = Xi S 904 98 := hFT42.x _ _ rfl
  have w2213 : Xi T42 951 0 = Xi S 951 0 := hFT42.x _ _ rfl
  have w2214 : Xi T42 951 1 = Xi S 951 1 := hFT42.x _ _ rfl
  have w2215 : 0 ≤ Xi T42 904 106 ∧ Xi T42 904 106 ≤ 9 := hHT42.c _ _
  have w2216 : 0 ≤ Xi T42 904 108 ∧ Xi T42 904 108 ≤ 2600 := hHT42.c _ _
  have w2217 : -1 ≤ Xi T42 904 115 ∧ Xi T42 904 115 ≤ 15 := hHT42.c _ _
  have w2218 : -1 ≤ Xi T42 904 116 ∧ Xi T42 904 116 ≤ 15 := hHT42.c _ _
  have w2219 : 0 ≤ Xi T42 904 117 ∧ Xi T42 904 117 ≤ 480 := hHT42.c _ _
  have w2220 : -1 ≤ Xi T42 904 60 ∧ Xi T42 904 60 ≤ 23 := hHT42.c _ _
  have w2221 : 0 ≤ Xi T42 904 69 ∧ Xi T42 904 69 ≤ 2600 := hHT42.c _ _
  have w2222 : 0 ≤ Xi T42 904 70 ∧ Xi T42 904 70 ≤ 20 := hHT42.c _ _
  have w2223 : 0 ≤ Xi T42 904 71 ∧ Xi T42 904 71 ≤ 2600 := hHT42.c _ _
  have w2224 : 0 ≤ Xi T42 904 72 ∧ Xi T42 904 72 ≤ 2600 := hHT42.c _ _
  have w2225 : 0 ≤ Xi T42 904 73 ∧ Xi T42 904 73 ≤ 5 := hHT42.c _ _
  have w2226 : 0 ≤ Xi T42 904 74 ∧ Xi T42 904 74 ≤ 2600 := hHT42.c _ _
  have w2227 : -2 ≤ Xi T42 904 78 ∧ Xi T42 904 78 ≤ 5010 := hHT42.c _ _
  have w2228 : 0 ≤ Xi T42 904 81 ∧ Xi T42 904 81 ≤ 5010 := hHT42.c _ _
  have w2229 : 0 ≤ Xi T42 904 94 ∧ Xi T42 904 94 ≤ 1700 := hHT42.c _ _
  have w2230 : 0 ≤ Xi T42 904 98 ∧ Xi T42 904 98 ≤ 1700 := hHT42.c _ _
  refine l_aload_n rfl rfl ?_
  have s327 := q20.2.2.2.2.2.2.2.2.2 (by omega)
  have z327_0 : Xi S 950 0 + Xi S 951 0 ≤ n := (hv 0 (by omega)).1
  have z327_1 : Xi S 950 1 + Xi S 951 1 ≤ n := (hv 1 (by omega)).1
  have z327_2 : Xi S 950 2 + Xi S 951 2 ≤ n := (hv 2 (by omega)).1
  refine l_iconst rfl ?_
  have w2237 : 0 ≤ Xi T42 904 16 ∧ Xi T42 904 16 ≤ 16 := hHT42.c _ _
  refine l_callV rfl rfl rfl (t_mo_kindOfRun__2 hHT42 n 0 ⟨by omega, by omega⟩ (by first | assumption | exact (TK_FR hFT42 rfl (by assumption : TK S _))) (by first | assumption | exact (RNV_FR hFT42 rfl (by assumption : RNV S _))) (by first | assumption | omega) (by first | assumption | exact (LXM_FR hFT42 rfl (by assumption : LXM S))) _) ?_
  rintro _ T43 ⟨hHT43, w2254, z2253, rfl, w2253, w2249, w2250, w2251, w2252⟩
  have hFT43 : FR md_mo_asked S T43 := FR.tr hFT42 w2254 rfl
  show Rl _ _ _ _ _ [iv z2253] _ _
  have r329 : z2253 = rnR S 0 0 := (by assumption : z2253 = rnR T42 _ _).trans (rnR_FR hFT42 rfl rfl)
  refine l_pop rfl rfl ?_
  refine l_aload_n rfl rfl ?_
  refine l_aload_n rfl rfl ?_
  refine l_iconst rfl ?_
  have w2269 : Xi T43 904 69 = Xi T42 904 69 := (show Xi T43 904 69 = Xi T42 904 69 from w2254.x _ _ rfl)
  refine l_callV rfl rfl rfl (t_mo_typeOrPlural__2 hHT43 n 1 ⟨by omega, by omega⟩ (by first | assumption | exact (TK_FR hFT43 rfl (by assumption : TK S _))) (by first | assumption | exact (RNV_FR hFT43 rfl (by assumption : RNV S _))) (by first | assumption | omega) (by first | assumption | exact (LXM_FR hFT43 rfl (by assumption : LXM S))) _) ?_
  rintro _ _ ⟨rfl, z2290, rfl, w2290, w2289⟩
  show Rl _ _ _ _ _ [iv z2290, .ref 904] _ _
  have r336 : z2290 = r2R S 1 2 3 := (by assumption : z2290 = r2R T43 _ _ _).trans (r2R_FR hFT43 rfl rfl)
  refine l_iconst rfl ?_
  refine l_icmp_eq rfl rfl (by unfold rg; omega) (by unfold rg; omega) (fun w2291 => ?_) (fun w2292 => ?_)
  · refine l_iconst rfl ?_
    refine l_iconst rfl ?_
    refine l_aload_n rfl rfl ?_
    refine l_gfr rfl rfl rfl rfl rfl (hHT43.r 904 67 950 rfl) ?_
    refine l_iconst rfl ?_
    refine l_iaload (n := 2600) rfl rfl (by omega) (by omega) (by unfold rg; omega) ?_
    have w2293 : 0 ≤ (Xi T43 950 ((1 : Int).toNat)) ∧ (Xi T43 950 ((1 : Int).toNat)) ≤ 5010 := hHT43.c _ _
    have w2294 : (Xi T43 950 ((1 : Int).toNat)) = Xi T43 950 1 := rfl
    have e354 : (Xi T43 950 ((1 : Int).toNat)) = Xi S 950 1 := by first | rfl | exact (hFT43.cx 950 rfl _).1
    have w2295 : 0 ≤ Xi T43 904 106 ∧ Xi T43 904 106 ≤ 9 := hHT43.c _ _
    refine l_callV rfl rfl rfl (t_mo_need hHT43 0 4 (Xi T43 950 ((1 : Int).toNat)) ⟨by omega, by omega⟩ ⟨by omega, by omega⟩ ⟨by omega, by omega⟩ _) ?_
    rintro _ T44 ⟨hHT44, w2332, rfl, w2329, w2330⟩
    have hFT44 : FR md_mo_asked S T44 := FR.tr hFT43 w2332 rfl
    show Rl _ _ _ _ _ [] _ _
    have w2333 : 0 ≤ Xi T44 904 106 ∧ Xi T44 904 106 ≤ 9 := hHT44.c _ _
    have w2334 : Xi T44 904 108 = Xi T42 904 108 := (show Xi T44 904 108 = Xi T43 904 108 from w2332.x _ _ rfl).trans ((show Xi T43 904 108 = Xi T42 904 108 from w2254.x _ _ rfl))
    have w2336 : Xi T44 904 109 = Xi T42 904 109 := (show Xi T44 904 109 = Xi T43 904 109 from w2332.x _ _ rfl).trans ((show Xi T43 904 109 = Xi T42 904 109 from w2254.x _ _ rfl))
    have w2337 : Xi T44 904 115 = Xi T42 904 115 := (show Xi T44 904 115 = Xi T43 904 115 from w2332.x _ _ rfl).trans ((show Xi T43 904 115 = Xi T42 904 115 from w2254.x _ _ rfl))
    have w2339 : Xi T44 904 116 = Xi T42 904 116 := (show Xi T44 904 116 = Xi T43 904 116 from w2332.x _ _ rfl).trans ((show Xi T43 904 116 = Xi T42 904 116 from w2254.x _ _ rfl))
    have w2341 : Xi T44 904 117 = Xi T42 904 117 := (show Xi T44 904 117 = Xi T43 904 117 from w2332.x _ _ rfl).trans ((show Xi T43 904 117 = Xi T42 904 117 from w2254.x _ _ rfl))
    have w2343 : Xi T44 904 142 = Xi T42 904 142 := (show Xi T44 904 142 = Xi T43 904 142 from w2332.x _ _ rfl).trans ((show Xi T43 904 142 = Xi T42 904 142 from w2254.x _ _ rfl))
    have w2344 : 0 ≤ Xi T42 904 142 ∧ Xi T42 904 142 ≤ 4 := hHT42.c _ _
    have w2345 : Xi T44 904 60 = Xi T42 904 60 := (show Xi T44 904 60 = Xi T43 904 60 from w2332.x _ _ rfl).trans ((show Xi T43 904 60 = Xi T42 904 60 from w2254.x _ _ rfl))
    have w2347 : Xi T44 904 69 = Xi T42 904 69 := (show Xi T44 904 69 = Xi T43 904 69 from w2332.x _ _ rfl).trans ((show Xi T43 904 69 = Xi T42 904 69 from w2254.x _ _ rfl))
    have w2349 : Xi T44 904 70 = Xi T42 904 70 := (show Xi T44 904 70 = Xi T43 904 70 from w2332.x _ _ rfl).trans ((show Xi T43 904 70 = Xi T42 904 70 from w2254.x _ _ rfl))
    have w2351 : Xi T44 904 71 = Xi T42 904 71 := (show Xi T44 904 71 = Xi T43 904 71 from w2332.x _ _ rfl).trans ((show Xi T43 904 71 = Xi T42 904 71 from w2254.x _ _ rfl))
    have w2353 : Xi T44 904 72 = Xi T42 904 72 := (show Xi T44 904 72 = Xi T43 904 72 from w2332.x _ _ rfl).trans ((show Xi T43 904 72 = Xi T42 904 72 from w2254.x _ _ rfl))
    have w2355 : Xi T44 904 73 = Xi T42 904 73 := (show Xi T44 904 73 = Xi T43 904 73 from w2332.x _ _ rfl).trans ((show Xi T43 904 73 = Xi T42 904 73 from w2254.x _ _ rfl))
    have w2357 : Xi T44 904 74 = Xi T42 904 74 := (show Xi T44 904 74 = Xi T43 904 74 from w2332.x _ _ rfl).trans ((show Xi T43 904 74 = Xi T42 904 74 from w2254.x _ _ rfl))
    have w2359 : Xi T44 904 78 = Xi T42 904 78 := (show Xi T44 904 78 = Xi T43 904 78 from w2332.x _ _ rfl).trans ((show Xi T43 904 78 = Xi T42 904 78 from w2254.x _ _ rfl))
    have w2361 : Xi T44 904 81 = Xi T42 904 81 := (show Xi T44 904 81 = Xi T43 904 81 from w2332.x _ _ rfl).trans ((show Xi T43 904 81 = Xi T42 904 81 from w2254.x _ _ rfl))
    have w2363 : Xi T44 904 94 = Xi T42 904 94 := (show Xi T44 904 94 = Xi T43 904 94 from w2332.x _ _ rfl).trans ((show Xi T43 904 94 = Xi T42 904 94 from w2254.x _ _ rfl))
    have w2365 : Xi T44 904 98 = Xi T42 904 98 := (show Xi T44 904 98 = Xi T43 904 98 from w2332.x _ _ rfl).trans ((show Xi T43 904 98 = Xi T42 904 98 from w2254.x _ _ rfl))
    exact Rl_weak (C358 T44 hHT44 hFT44  (by omega) (by omega) (by omega) (by omega) (by omega) (by omega) (by omega) (by omega) (by omega) (by omega) (by omega) (by omega) (by first | assumption | exact fun k hk => absurd hk (by omega) | exact (NWV_FR w2332 rfl (NWV_FR w2254 rfl (by assumption : NWV T42)))) (by first | assumption | exact (RDT_FR hHT43 w2332 rfl rfl rfl (RDT_FR hHT42 w2254 rfl rfl rfl (by assumption : RDT T42)))) (by omega) (by omega) (by omega) (fun q => ⟨by omega, by omega⟩)) (And.intro rfl (True.intro))
  · refine l_iconst rfl ?_
    refine l_goto rfl rfl ?_
    refine l_iconst rfl ?_
    refine l_aload_n rfl rfl ?_
    refine l_gfr rfl rfl rfl rfl rfl (hHT43.r 904 67 950 rfl) ?_
    refine l_iconst rfl ?_
    refine l_iaload (n := 2600) rfl rfl (by omega) (by omega) (by unfold rg; omega) ?_
    have w2367 : 0 ≤ (Xi T43 950 ((1 : Int).toNat)) ∧ (Xi T43 950 ((1 : Int).toNat)) ≤ 5010 := hHT43.c _ _
    have w2368 : (Xi T43 950 ((1 : Int).toNat)) = Xi T43 950 1 := rfl
    have e354 : (Xi T43 950 ((1 : Int).toNat)) = Xi S 950 1 := by first | rfl | exact (hFT43.cx 950 rfl _).1
    have w2369 : 0 ≤ Xi T43 904 106 ∧ Xi T43 904 106 ≤ 9 := hHT43.c _ _
    refine l_callV rfl rfl rfl (t_mo_need hHT43 1 4 (Xi T43 950 ((1 : Int).toNat)) ⟨by omega, by omega⟩ ⟨by omega, by omega⟩ ⟨by omega, by omega⟩ _) ?_
    rintro _ T45 ⟨hHT45, w2406, rfl, w2403, w2404⟩
    have hFT45 : FR md_mo_asked S T45 := FR.tr hFT43 w2406 rfl
    show Rl _ _ _ _ _ [] _ _
    have w2407 : 0 ≤ Xi T45 904 106 ∧ Xi T45 904 106 ≤ 9 := hHT45.c _ _
    have w2408 : Xi T45 904 108 = Xi T42 904 108 := (show Xi T45 904 108 = Xi T43 904 108 from w2406.x _ _ rfl).trans ((show Xi T43 904 108 = Xi T42 904 108 from w2254.x _ _ rfl))
    have w2410 : Xi T45 904 109 = Xi T42 904 109 := (show Xi T45 904 109 = Xi T43 904 109 from w2406.x _ _ rfl).trans ((show Xi T43 904 109 = Xi T42 904 109 from w2254.x _ _ rfl))
    have w2411 : Xi T45 904 115 = Xi T42 904 115 := (show Xi T45 904 115 = Xi T43 904 115 from w2406.x _ _ rfl).trans ((show Xi T43 904 115 = Xi T42 904 115 from w2254.x _ _ rfl))
    have w2413 : Xi T45 904 116 = Xi T42 904 116 := (show Xi T45 904 116 = Xi T43 904 116 from w2406.x _ _ rfl).trans ((show Xi T43 904 116 = Xi T42 904 116 from w2254.x _ _ rfl))
    have w2415 : Xi T45 904 117 = Xi T42 904 117 := (show Xi T45 904 117 = Xi T43 904 117 from w2406.x _ _ rfl).trans ((show Xi T43 904 117 = Xi T42 904 117 from w2254.x _ _ rfl))
    have w2417 : Xi T45 904 142 = Xi T42 904 142 := (show Xi T45 904 142 = Xi T43 904 142 from w2406.x _ _ rfl).trans ((show Xi T43 904 142 = Xi T42 904 142 from w2254.x _ _ rfl))
    have w2418 : 0 ≤ Xi T42 904 142 ∧ Xi T42 904 142 ≤ 4 := hHT42.c _ _
    have w2419 : Xi T45 904 60 = Xi T42 904 60 := (show Xi T45 904 60 = Xi T43 904 60 from w2406.x _ _ rfl).trans ((show Xi T43 904 60 = Xi T42 904 60 from w2254.x _ _ rfl))
    have w2421 : Xi T45 904 69 = Xi T42 904 69 := (show Xi T45 904 69 = Xi T43 904 69 from w2406.x _ _ rfl).trans ((show Xi T43 904 69 = Xi T42 904 69 from w2254.x _ _ rfl))
    have w2423 : Xi T45 904 70 = Xi T42 904 70 := (show Xi T45 904 70 = Xi T43 904 70 from w2406.x _ _ rfl).trans ((show Xi T43 904 70 = Xi T42 904 70 from w2254.x _ _ rfl))
    have w2425 : Xi T45 904 71 = Xi T42 904 71 := (show Xi T45 904 71 = Xi T43 904 71 from w2406.x _ _ rfl).trans ((show Xi T43 904 71 = Xi T42 904 71 from w2254.x _ _ rfl))
    have w2427 : Xi T45 904 72 = Xi T42 904 72 := (show Xi T45 904 72 = Xi T43 904 72 from w2406.x _ _ rfl).trans ((show Xi T43 904 72 = Xi T42 904 72 from w2254.x _ _ rfl))
    have w2429 : Xi T45 904 73 = Xi T42 904 73 := (show Xi T45 904 73 = Xi T43 904 73 from w2406.x _ _ rfl).trans ((show Xi T43 904 73 = Xi T42 904 73 from w2254.x _ _ rfl))
    have w2431 : Xi T45 904 74 = Xi T42 904 74 := (show Xi T45 904 74 = Xi T43 904 74 from w2406.x _ _ rfl).trans ((show Xi T43 904 74 = Xi T42 904 74 from w2254.x _ _ rfl))
    have w2433 : Xi T45 904 78 = Xi T42 904 78 := (show Xi T45 904 78 = Xi T43 904 78 from w2406.x _ _ rfl).trans ((show Xi T43 904 78 = Xi T42 904 78 from w2254.x _ _ rfl))
    have w2435 : Xi T45 904 81 = Xi T42 904 81 := (show Xi T45 904 81 = Xi T43 904 81 from w2406.x _ _ rfl).trans ((show Xi T43 904 81 = Xi T42 904 81 from w2254.x _ _ rfl))
    have w2437 : Xi T45 904 94 = Xi T42 904 94 := (show Xi T45 904 94 = Xi T43 904 94 from w2406.x _ _ rfl).trans ((show Xi T43 904 94 = Xi T42 904 94 from w2254.x _ _ rfl))
    have w2439 : Xi T45 904 98 = Xi T42 904 98 := (show Xi T45 904 98 = Xi T43 904 98 from w2406.x _ _ rfl).trans ((show Xi T43 904 98 = Xi T42 904 98 from w2254.x _ _ rfl))
    exact Rl_weak (C358 T45 hHT45 hFT45  (by omega) (by omega) (by omega) (by omega) (by omega) (by omega) (by omega) (by omega) (by omega) (by omega) (by omega) (by omega) (by first | assumption | exact fun k hk => absurd hk (by omega) | exact (NWV_FR w2406 rfl (NWV_FR w2254 rfl (by assumption : NWV T42)))) (by first | assumption | exact (RDT_FR hHT43 w2406 rfl rfl rfl (RDT_FR hHT42 w2254 rfl rfl rfl (by assumption : RDT T42)))) (by omega) (by omega) (by omega) (fun q => ⟨by omega, by omega⟩)) (And.intro rfl (True.intro))
set_option maxRecDepth 100000 in
set_option maxHeartbeats 8000000 in
theorem c427_mo_asked {S : sS} (hH : HI S) (n : Nat) (dd : Nat) (first : Int) (hfirst : 0 ≤ first ∧ first ≤ 5001) (hT : TK S n) (hv : RNV S n) (hM : LXM S) (hB : ABV S) (hC : DCM S) (hK : TXK S n) (hX : TXM S) (hq : SNQ S n) (hap : AP9 S n) (h94 : Xi S 904 94 ≤ 1668) (hRD : RDT S) (hPF : PF S) (hdt : Xi S 904 70 = 20 → first ≤ dd ∧ dd < n ∧ Xi S 907 dd = 46) (d : Nat) : ∀  (T46 : sS) (_ : HI T46) (_ : FR md_mo_asked S T46), (Xi T46 904 117 = Xi S 904 117) → (Xi T46 904 60 = Xi S 904 60) → (Xi T46 904 69 = Xi S 904 69) → (Xi T46 904 70 = Xi S 904 70) → (Xi T46 904 71 = Xi S 904 71) → (Xi T46 904 72 = Xi S 904 72) → (Xi T46 904 73 = Xi S 904 73) → (Xi T46 904 74 = Xi S 904 74) → (Xi T46 904 78 = Xi S 904 78) → (Xi T46 904 81 = Xi S 904 81) → (Xi T46 904 94 = Xi S 904 94) → (Xi T46 904 98 = Xi S 904 98) → (NWV T46) → (RDT T46) → (Xi S 904 70 = 18) → (3 ≤ Xi S 904 69) → (Xi T46 904 108 ≤ 1) → (Xi T46 904 106 = 0 → rnR S 0 0 ≠ -1 ∧ 1 ≤ Xi T46 904 108) → (Xi T46 904 106 = 0 → Xi S 904 23 < 24 ∧ Xi S 951 1 ≤ 3) → Rl lay0 (d + 12) m_mo_asked 427 [(0, .ref 904)] [] T46 (Q_mo_asked S n dd first) := by
  have hF : FR md_mo_asked S S := FR.rf
  have w1 : 0 ≤ Xi S 904 106 ∧ Xi S 904 106 ≤ 9 := hH.c _ _
  have w2 : 0 ≤ Xi S 904 108 ∧ Xi S 904 108 ≤ 2600 := hH.c _ _
  have w3 : -1 ≤ Xi S 904 115 ∧ Xi S 904 115 ≤ 15 := hH.c _ _
  have w4 : -1 ≤ Xi S 904 116 ∧ Xi S 904 116 ≤ 15 := hH.c _ _
  have w5 : 0 ≤ Xi S 904 117 ∧ Xi S 904 117 ≤ 480 := hH.c _ _
  have w6 : 0 ≤ Xi S 904 23 ∧ Xi S 904 23 ≤ 24 := hH.c _ _
  have w7 : 0 ≤ Xi S 904 41 ∧ Xi S 904 41 ≤ 6 := hH.c _ _
  have w8 : -1 ≤ Xi S 904 60 ∧ Xi S 904 60 ≤ 23 := hH.c _ _
  have w9 : 0 ≤ Xi S 904 69 ∧ Xi S 904 69 ≤ 2600 := hH.c _ _
  have w10 : 0 ≤ Xi S 904 70 ∧ Xi S 904 70 ≤ 20 := hH.c _ _
  have w11 : 0 ≤ Xi S 904 71 ∧ Xi S 904 71 ≤ 2600 := hH.c _ _
  have w12 : 0 ≤ Xi S 904 72 ∧ Xi S 904 72 ≤ 2600 := hH.c _ _
  have w13 : 0 ≤ Xi S 904 73 ∧ Xi S 904 73 ≤ 5 := hH.c _ _
  have w14 : 0 ≤ Xi S 904 74 ∧ Xi S 904 74 ≤ 2600 := hH.c _ _
  have w15 : -2 ≤ Xi S 904 78 ∧ Xi S 904 78 ≤ 5010 := hH.c _ _
  have w16 : 0 ≤ Xi S 904 81 ∧ Xi S 904 81 ≤ 5010 := hH.c _ _
  have w17 : 0 ≤ Xi S 904 94 ∧ Xi S 904 94 ≤ 1700 := hH.c _ _
  have w18 : 0 ≤ Xi S 904 98 ∧ Xi S 904 98 ≤ 1700 := hH.c _ _
  have w19 : 0 ≤ Xi S 951 0 ∧ Xi S 951 0 ≤ 5010 := hH.c _ _
  have w20 : 0 ≤ Xi S 951 1 ∧ Xi S 951 1 ≤ 5010 := hH.c _ _
  have hn5 := hT.1
  have hc69 : 0 ≤ Xi S 904 69 ∧ Xi S 904 69 ≤ 2600 := hH.c _ _
  have hc70 : 0 ≤ Xi S 904 70 ∧ Xi S 904 70 ≤ 20 := hH.c _ _
  have hc23 : 0 ≤ Xi S 904 23 ∧ Xi S 904 23 ≤ 24 := hH.c _ _
  have hrf : ∀ r : Int, 0 ≤ r → r < Xi S 904 69 → Xi S 950 r.toNat + Xi S 951 r.toNat ≤ n ∧ 1 ≤ Xi S 951 r.toNat := fun r a b => hv r.toNat (by omega)
  have hq0 : KQL S S (Xi S 904 117) := KQL.rf
  intro T46 hHT46 hFT46 w2441 w2442 w2443 w2444 w2445 w2446 w2447 w2448 w2449 w2450 w2451 w2452 N427 R427 w2453 w2454 w2455 E427 G427
  have w2456 : Xi T46 904 102 = Xi S 904 102 := hFT46.x _ _ rfl
  have w2457 : Xi T46 904 103 = Xi S 904 103 := hFT46.x _ _ rfl
  have w2458 : Xi T46 904 16 = Xi S 904 16 := hFT46.x _ _ rfl
  have w2459 : Xi T46 904 18 = Xi S 904 18 := hFT46.x _ _ rfl
  have w2460 : Xi T46 904 19 = Xi S 904 19 := hFT46.x _ _ rfl
  have w2461 : Xi T46 904 23 = Xi S 904 23 := hFT46.x _ _ rfl
  have w2462 : Xi T46 904 30 = Xi S 904 30 := hFT46.x _ _ rfl
  have w2463 : Xi T46 904 41 = Xi S 904 41 := hFT46.x _ _ rfl
  have w2464 : Xi T46 904 47 = Xi S 904 47 := hFT46.x _ _ rfl
  have w2465 : Xi T46 904 49 = Xi S 904 49 := hFT46.x _ _ rfl
  have w2466 : Xi T46 904 55 = Xi S 904 55 := hFT46.x _ _ rfl
  have w2467 : Xi T46 904 60 = Xi S 904 60 := hFT46.x _ _ rfl
  have w2468 : Xi T46 904 69 = Xi S 904 69 := hFT46.x _ _ rfl
  have w2469 : Xi T46 904 70 = Xi S 904 70 := hFT46.x _ _ rfl
  have w2470 : Xi T46 904 71 = Xi S 904 71 := hFT46.x _ _ rfl
  have w2471 : Xi T46 904 72 = Xi S 904 72 := hFT46.x _ _ rfl
  have w2472 : Xi T46 904 73 = Xi S 904 73 := hFT46.x _ _ rfl
  have w2473 : Xi T46 904 74 = Xi S 904 74 := hFT46.x _ _ rfl
  have w2474 : Xi T46 904 78 = Xi S 904 78 := hFT46.x _ _ rfl
  have w2475 : Xi T46 904 81 = Xi S 904 81 := hFT46.x _ _ rfl
  have w2476 : Xi T46 904 94 = Xi S 904 94 := hFT46.x _ _ rfl
  have w2477 : Xi T46 904 98 = Xi S 904 98 := hFT46.x _ _ rfl
  have w2478 : Xi T46 951 0 = Xi S 951 0 := hFT46.x _ _ rfl
  have w2479 : Xi T46 951 1 = Xi S 951 1 := hFT46.x _ _ rfl
  have w2480 : 0 ≤ Xi T46 904 106 ∧ Xi T46 904 106 ≤ 9 := hHT46.c _ _
  have w2481 : 0 ≤ Xi T46 904 108 ∧ Xi T46 904 108 ≤ 2600 := hHT46.c _ _
  have w2482 : 0 ≤ Xi T46 904 117 ∧ Xi T46 904 117 ≤ 480 := hHT46.c _ _
  have w2483 : -1 ≤ Xi T46 904 60 ∧ Xi T46 904 60 ≤ 23 := hHT46.c _ _
  have w2484 : 0 ≤ Xi T46 904 69 ∧ Xi T46 904 69 ≤ 2600 := hHT46.c _ _
  have w2485 : 0 ≤ Xi T46 904 70 ∧ Xi T46 904 70 ≤ 20 := hHT46.c _ _
  have w2486 : 0 ≤ Xi T46 904 71 ∧ Xi T46 904 71 ≤ 2600 := hHT46.c _ _
  have w2487 : 0 ≤ Xi T46 904 72 ∧ Xi T46 904 72 ≤ 2600 := hHT46.c _ _
  have w2488 : 0 ≤ Xi T46 904 73 ∧ Xi T46 904 73 ≤ 5 := hHT46.c _ _
  have w2489 : 0 ≤ Xi T46 904 74 ∧ Xi T46 904 74 ≤ 2600 := hHT46.c _ _
  have w2490 : -2 ≤ Xi T46 904 78 ∧ Xi T46 904 78 ≤ 5010 := hHT46.c _ _
  have w2491 : 0 ≤ Xi T46 904 81 ∧ Xi T46 904 81 ≤ 5010 := hHT46.c _ _
  have w2492 : 0 ≤ Xi T46 904 94 ∧ Xi T46 904 94 ≤ 1700 := hHT46.c _ _
  have w2493 : 0 ≤ Xi T46 904 98 ∧ Xi T46 904 98 ≤ 1700 := hHT46.c _ _
  refine l_aload_n rfl rfl ?_
  refine l_iconst rfl ?_
  refine l_aload_n rfl rfl ?_
  refine l_gfi rfl rfl rfl rfl rfl ?_
  refine l_aload_n rfl rfl ?_
  refine l_gfi rfl rfl rfl rfl rfl ?_
  refine l_if_le rfl rfl (by unfold rg; omega) (fun w2494 => ?_) (fun w2495 => ?_)
  · refine l_iconst rfl ?_
    refine l_iadd rfl ?_
    refine l_bipush rfl rfl ?_
    have w2498 : -1 ≤ Xi T46 904 115 ∧ Xi T46 904 115 ≤ 15 := hHT46.c _ _
    have w2499 : -1 ≤ Xi T46 904 116 ∧ Xi T46 904 116 ≤ 15 := hHT46.c _ _
    have w2501 : 0 ≤ Xi T46 904 142 ∧ Xi T46 904 142 ≤ 4 := hHT46.c _ _
    refine l_callV rfl rfl rfl (t_mo_mustBeNew__2 hHT46 n 2 ((Xi T46 904 23) + 0) 24 ⟨by omega, by omega⟩ ⟨by omega, by omega⟩ ⟨by omega, by omega⟩ (by first | assumption | exact (TK_FR hFT46 rfl (by assumption : TK S _))) (by first | assumption | exact (RNV_FR hFT46 rfl (by assumption : RNV S _))) (by first | assumption | omega) (by first | assumption | exact fun k hk => absurd hk (by omega) | exact (by assumption : NWV T46)) (by first | assumption | omega) _) ?_
    rintro _ T47 ⟨hHT47, w2518, rfl, w2513, g448, w2514, w2515, w2516⟩
    have hFT47 : FR md_mo_asked S T47 := FR.tr hFT46 w2518 rfl
    show Rl _ _ _ _ _ [] _ _
    have y448_69 : Xi T47 904 69 = Xi T46 904 69 := ((show Xi T47 904 69 = Xi T46 904 69 from w2518.x _ _ rfl))
    have y448_70 : Xi T47 904 70 = Xi T46 904 70 := ((show Xi T47 904 70 = Xi T46 904 70 from w2518.x _ _ rfl))
    have y448_71 : Xi T47 904 71 = Xi T46 904 71 := ((show Xi T47 904 71 = Xi T46 904 71 from w2518.x _ _ rfl))
    have y448_72 : Xi T47 904 72 = Xi T46 904 72 := ((show Xi T47 904 72 = Xi T46 904 72 from w2518.x _ _ rfl))
    have y448_73 : Xi T47 904 73 = Xi T46 904 73 := ((show Xi T47 904 73 = Xi T46 904 73 from w2518.x _ _ rfl))
    have y448_74 : Xi T47 904 74 = Xi T46 904 74 := ((show Xi T47 904 74 = Xi T46 904 74 from w2518.x _ _ rfl))
    have y448_78 : Xi T47 904 78 = Xi T46 904 78 := ((show Xi T47 904 78 = Xi T46 904 78 from w2518.x _ _ rfl))
    have y448_81 : Xi T47 904 81 = Xi T46 904 81 := ((show Xi T47 904 81 = Xi T46 904 81 from w2518.x _ _ rfl))
    have y448_94 : Xi T47 904 94 = Xi T46 904 94 := ((show Xi T47 904 94 = Xi T46 904 94 from w2518.x _ _ rfl))
    have y448_98 : Xi T47 904 98 = Xi T46 904 98 := ((show Xi T47 904 98 = Xi T46 904 98 from w2518.x _ _ rfl))
    have y448_60 : Xi T47 904 60 = Xi T46 904 60 := ((show Xi T47 904 60 = Xi T46 904 60 from w2518.x _ _ rfl))
    have y448_117 : Xi T47 904 117 = Xi T46 904 117 := ((show Xi T47 904 117 = Xi T46 904 117 from w2518.x _ _ rfl))
    have i448 : Xi T46 904 106 = 0 → 1 ≤ Xi T46 904 108 := fun q => (E427 q).2
    have H448 : Xi T47 904 106 = 0 → Xi S 904 23 + 1 < 24 ∧ Xi S 951 2 ≤ 3 := fun q => (by have t := g448 q; have u := t.2.1; rw [(hFT46.cx 951 rfl _).1] at u; have v : Xi T46 904 23 = Xi S 904 23 := hFT46.x 904 23 rfl; exact ⟨by omega, u⟩)
    have u448_23 : Xi T47 904 23 = Xi S 904 23 := hFT47.x 904 23 rfl
    have F448 : Xi T47 904 106 = 0 → DOK T47 := fun q => dok_18 (by omega) (⟨by rw [rnR_FR hFT47 rfl rfl]; exact (E427 (by omega)).1, by have t := H448 q; omega, by rw [(hFT47.cx 951 rfl _).1]; exact (G427 (by omega)).2, by rw [(hFT47.cx 951 rfl _).1]; exact (H448 q).2⟩)
    refine l_goto rfl rfl ?_
    refine l_return rfl rfl ?_
    have w2519 : 0 ≤ Xi T47 904 106 ∧ Xi T47 904 106 ≤ 9 := hHT47.c _ _
    exact ⟨hHT47, hFT47, rfl, (by assumption), (by first | exact fun q => by assumption | assumption | exact fun q => (RDT_FR hHT46 w2518 rfl rfl rfl (by assumption : RDT T46)))⟩
  · refine l_iconst rfl ?_
    refine l_goto rfl rfl ?_
    refine l_iadd rfl ?_
    refine l_bipush rfl rfl ?_
    have w2554 : -1 ≤ Xi T46 904 115 ∧ Xi T46 904 115 ≤ 15 := hHT46.c _ _
    have w2555 : -1 ≤ Xi T46 904 116 ∧ Xi T46 904 116 ≤ 15 := hHT46.c _ _
    have w2557 : 0 ≤ Xi T46 904 142 ∧ Xi T46 904 142 ≤ 4 := hHT46.c _ _
    refine l_callV rfl rfl rfl (t_mo_mustBeNew__2 hHT46 n 2 ((Xi T46 904 23) + 1) 24 ⟨by omega, by omega⟩ ⟨by omega, by omega⟩ ⟨by omega, by omega⟩ (by first | assumption | exact (TK_FR hFT46 rfl (by assumption : TK S _))) (by first | assumption | exact (RNV_FR hFT46 rfl (by assumption : RNV S _))) (by first | assumption | omega) (by first | assumption | exact fun k hk => absurd hk (by omega) | exact (by assumption : NWV T46)) (by first | assumption | omega) _) ?_
    rintro _ T48 ⟨hHT48, w2574, rfl, w2569, g448, w2570, w2571, w2572⟩
    have hFT48 : FR md_mo_asked S T48 := FR.tr hFT46 w2574 rfl
    show Rl _ _ _ _ _ [] _ _
    have y448_69 : Xi T48 904 69 = Xi T46 904 69 := ((show Xi T48 904 69 = Xi T46 904 69 from w2574.x _ _ rfl))
    have y448_70 : Xi T48 904 70 = Xi T46 904 70 := ((show Xi T48 904 70 = Xi T46 904 70 from w2574.x _ _ rfl))
    have y448_71 : Xi T48 904 71 = Xi T46 904 71 := ((show Xi T48 904 71 = Xi T46 904 71 from w2574.x _ _ rfl))
    have y448_72 : Xi T48 904 72 = Xi T46 904 72 := ((show Xi T48 904 72 = Xi T46 904 72 from w2574.x _ _ rfl))
    have y448_73 : Xi T48 904 73 = Xi T46 904 73 := ((show Xi T48 904 73 = Xi T46 904 73 from w2574.x _ _ rfl))
    have y448_74 : Xi T48 904 74 = Xi T46 904 74 := ((show Xi T48 904 74 = Xi T46 904 74 from w2574.x _ _ rfl))
    have y448_78 : Xi T48 904 78 = Xi T46 904 78 := ((show Xi T48 904 78 = Xi T46 904 78 from w2574.x _ _ rfl))
    have y448_81 : Xi T48 904 81 = Xi T46 904 81 := ((show Xi T48 904 81 = Xi T46 904 81 from w2574.x _ _ rfl))
    have y448_94 : Xi T48 904 94 = Xi T46 904 94 := ((show Xi T48 904 94 = Xi T46 904 94 from w2574.x _ _ rfl))
    have y448_98 : Xi T48 904 98 = Xi T46 904 98 := ((show Xi T48 904 98 = Xi T46 904 98 from w2574.x _ _ rfl))
    have y448_60 : Xi T48 904 60 = Xi T46 904 60 := ((show Xi T48 904 60 = Xi T46 904 60 from w2574.x _ _ rfl))
    have y448_117 : Xi T48 904 117 = Xi T46 904 117 := ((show Xi T48 904 117 = Xi T46 904 117 from w2574.x _ _ rfl))
    have i448 : Xi T46 904 106 = 0 → 1 ≤ Xi T46 904 108 := fun q => (E427 q).2
    have H448 : Xi T48 904 106 = 0 → Xi S 904 23 + 1 < 24 ∧ Xi S 951 2 ≤ 3 := fun q => (by have t := g448 q; have u := t.2.1; rw [(hFT46.cx 951 rfl _).1] at u; have v : Xi T46 904 23 = Xi S 904 23 := hFT46.x 904 23 rfl; exact ⟨by omega, u⟩)
    have u448_23 : Xi T48 904 23 = Xi S 904 23 := hFT48.x 904 23 rfl
    have F448 : Xi T48 904 106 = 0 → DOK T48 := fun q => dok_18 (by omega) (⟨by rw [rnR_FR hFT48 rfl rfl]; exact (E427 (by omega)).1, by have t := H448 q; omega, by rw [(hFT48.cx 951 rfl _).1]; exact (G427 (by omega)).2, by rw [(hFT48.cx 951 rfl _).1]; exact (H448 q).2⟩)
    refine l_goto rfl rfl ?_
    refine l_return rfl rfl ?_
    have w2575 : 0 ≤ Xi T48 904 106 ∧ Xi T48 904 106 ≤ 9 := hHT48.c _ _
    exact ⟨hHT48, hFT48, rfl, (by assumption), (by first | exact fun q => by assumption | assumption | exact fun q => (RDT_FR hHT46 w2574 rfl rfl rfl (by assumption : RDT T46)))⟩
set_option maxRecDepth 100000 in
set_option maxHeartbeats 8000000 in
theorem c410_mo_asked {S : sS} (hH : HI S) (n : Nat) (dd : Nat) (first : Int) (hfirst : 0 ≤ first ∧ first ≤ 5001) (hT : TK S n) (hv : RNV S n) (hM : LXM S) (hB : ABV S) (hC : DCM S) (hK : TXK S n) (hX : TXM S) (hq : SNQ S n) (hap : AP9 S n) (h94 : Xi S 904 94 ≤ 1668) (hRD : RDT S) (hPF : PF S) (hdt : Xi S 904 70 = 20 → first ≤ dd ∧ dd < n ∧ Xi S 907 dd = 46) (d : Nat) : ∀  (T49 : sS) (_ : HI T49) (_ : FR md_mo_asked S T49), (Xi T49 904 117 = Xi S 904 117) → (Xi T49 904 69 = Xi S 904 69) → (Xi T49 904 70 = Xi S 904 70) → (Xi T49 904 71 = Xi S 904 71) → (Xi T49 904 72 = Xi S 904 72) → (Xi T49 904 73 = Xi S 904 73) → (Xi T49 904 74 = Xi S 904 74) → (Xi T49 904 78 = Xi S 904 78) → (Xi T49 904 81 = Xi S 904 81) → (Xi T49 904 94 = Xi S 904 94) → (Xi T49 904 98 = Xi S 904 98) → (Xi T49 904 60 = Xi S 904 60) → (Xi T49 904 106 = 0) → (Xi T49 904 108 = 0) → (Xi T49 904 115 = -1) → (Xi T49 904 116 = -1) → (SNQ T49 n) → (RDT T49) → (KQL T49 S (Xi S 904 117)) → (Xi S 904 70 = 18) → Rl lay0 (d + 12) m_mo_asked 410 [(0, .ref 904)] [] T49 (Q_mo_asked S n dd first) := by
  have C427 := c427_mo_asked hH n dd first hfirst hT hv hM hB hC hK hX hq hap h94 hRD hPF hdt d 
  have hF : FR md_mo_asked S S := FR.rf
  have w1 : 0 ≤ Xi S 904 106 ∧ Xi S 904 106 ≤ 9 := hH.c _ _
  have w2 : 0 ≤ Xi S 904 108 ∧ Xi S 904 108 ≤ 2600 := hH.c _ _
  have w3 : -1 ≤ Xi S 904 115 ∧ Xi S 904 115 ≤ 15 := hH.c _ _
  have w4 : -1 ≤ Xi S 904 116 ∧ Xi S 904 116 ≤ 15 := hH.c _ _
  have w5 : 0 ≤ Xi S 904 117 ∧ Xi S 904 117 ≤ 480 := hH.c _ _
  have w6 : 0 ≤ Xi S 904 23 ∧ Xi S 904 23 ≤ 24 := hH.c _ _
  have w7 : 0 ≤ Xi S 904 41 ∧ Xi S 904 41 ≤ 6 := hH.c _ _
  have w8 : -1 ≤ Xi S 904 60 ∧ Xi S 904 60 ≤ 23 := hH.c _ _
  have w9 : 0 ≤ Xi S 904 69 ∧ Xi S 904 69 ≤ 2600 := hH.c _ _
  have w10 : 0 ≤ Xi S 904 70 ∧ Xi S 904 70 ≤ 20 := hH.c _ _
  have w11 : 0 ≤ Xi S 904 71 ∧ Xi S 904 71 ≤ 2600 := hH.c _ _
  have w12 : 0 ≤ Xi S 904 72 ∧ Xi S 904 72 ≤ 2600 := hH.c _ _
  have w13 : 0 ≤ Xi S 904 73 ∧ Xi S 904 73 ≤ 5 := hH.c _ _
  have w14 : 0 ≤ Xi S 904 74 ∧ Xi S 904 74 ≤ 2600 := hH.c _ _
  have w15 : -2 ≤ Xi S 904 78 ∧ Xi S 904 78 ≤ 5010 := hH.c _ _
  have w16 : 0 ≤ Xi S 904 81 ∧ Xi S 904 81 ≤ 5010 := hH.c _ _
  have w17 : 0 ≤ Xi S 904 94 ∧ Xi S 904 94 ≤ 1700 := hH.c _ _
  have w18 : 0 ≤ Xi S 904 98 ∧ Xi S 904 98 ≤ 1700 := hH.c _ _
  have w19 : 0 ≤ Xi S 951 0 ∧ Xi S 951 0 ≤ 5010 := hH.c _ _
  have w20 : 0 ≤ Xi S 951 1 ∧ Xi S 951 1 ≤ 5010 := hH.c _ _
  have hn5 := hT.1
  have hc69 : 0 ≤ Xi S 904 69 ∧ Xi S 904 69 ≤ 2600 := hH.c _ _
  have hc70 : 0 ≤ Xi S 904 70 ∧ Xi S 904 70 ≤ 20 := hH.c _ _
  have hc23 : 0 ≤ Xi S 904 23 ∧ Xi S 904 23 ≤ 24 := hH.c _ _
  have hrf : ∀ r : Int, 0 ≤ r → r < Xi S 904 69 → Xi S 950 r.toNat + Xi S 951 r.toNat ≤ n ∧ 1 ≤ Xi S 951 r.toNat := fun r a b => hv r.toNat (by omega)
  have hq0 : KQL S S (Xi S 904 117) := KQL.rf
  intro T49 hHT49 hFT49 w2608 w2609 w2610 w2611 w2612 w2613 w2614 w2615 w2616 w2617 w2618 w2619 w2620 w2621 w2622 w2623 q20 r20 K20 w2624
  have w2625 : Xi T49 904 102 = Xi S 904 102 := hFT49.x _ _ rfl
  have w2626 : Xi T49 904 103 = Xi S 904 103 := hFT49.x _ _ rfl
  have w2627 : Xi T49 904 16 = Xi S 904 16 := hFT49.x _ _ rfl
  have w2628 : Xi T49 904 18 = Xi S 904 18 := hFT49.x _ _ rfl
  have w2629 : Xi T49 904 19 = Xi S 904 19 := hFT49.x _ _ rfl
  have w2630 : Xi T49 904 23 = Xi S 904 23 := hFT49.x _ _ rfl
  have w2631 : Xi T49 904 30 = Xi S 904 30 := hFT49.x _ _ rfl
  have w2632 : Xi T49 904 41 = Xi S 904 41 := hFT49.x _ _ rfl
  have w2633 : Xi T49 904 47 = Xi S 904 47 := hFT49.x _ _ rfl
  have w2634 : Xi T49 904 49 = Xi S 904 49 := hFT49.x _ _ rfl
  have w2635 : Xi T49 904 55 = Xi S 904 55 := hFT49.x _ _ rfl
  have w2636 : Xi T49 904 60 = Xi S 904 60 := hFT49.x _ _ rfl
  have w2637 : Xi T49 904 69 = Xi S 904 69 := hFT49.x _ _ rfl
  have w2638 : Xi T49 904 70 = Xi S 904 70 := hFT49.x _ _ rfl
  have w2639 : Xi T49 904 71 = Xi S 904 71 := hFT49.x _ _ rfl
  have w2640 : Xi T49 904 72 = Xi S 904 72 := hFT49.x _ _ rfl
  have w2641 : Xi T49 904 73 = Xi S 904 73 := hFT49.x _ _ rfl
  have w2642 : Xi T49 904 74 = Xi S 904 74 := hFT49.x _ _ rfl
  have w2643 : Xi T49 904 78 = Xi S 904 78 := hFT49.x _ _ rfl
  have w2644 : Xi T49 904 81 = Xi S 904 81 := hFT49.x _ _ rfl
  have w2645 : Xi T49 904 94 = Xi S 904 94 := hFT49.x _ _ rfl
  have w2646 : Xi T49 904 98 = Xi S 904 98 := hFT49.x _ _ rfl
  have w2647 : Xi T49 951 0 = Xi S 951 0 := hFT49.x _ _ rfl
  have w2648 : Xi T49 951 1 = Xi S 951 1 := hFT49.x _ _ rfl
  have w2649 : 0 ≤ Xi T49 904 106 ∧ Xi T49 904 106 ≤ 9 := hHT49.c _ _
  have w2650 : 0 ≤ Xi T49 904 108 ∧ Xi T49 904 108 ≤ 2600 := hHT49.c _ _
  have w2651 : -1 ≤ Xi T49 904 115 ∧ Xi T49 904 115 ≤ 15 := hHT49.c _ _
  have w2652 : -1 ≤ Xi T49 904 116 ∧ Xi T49 904 116 ≤ 15 := hHT49.c _ _
  have w2653 : 0 ≤ Xi T49 904 117 ∧ Xi T49 904 117 ≤ 480 := hHT49.c _ _
  have w2654 : -1 ≤ Xi T49 904 60 ∧ Xi T49 904 60 ≤ 23 := hHT49.c _ _
  have w2655 : 0 ≤ Xi T49 904 69 ∧ Xi T49 904 69 ≤ 2600 := hHT49.c _ _
  have w2656 : 0 ≤ Xi T49 904 70 ∧ Xi T49 904 70 ≤ 20 := hHT49.c _ _
  have w2657 : 0 ≤ Xi T49 904 71 ∧ Xi T49 904 71 ≤ 2600 := hHT49.c _ _
  have w2658 : 0 ≤ Xi T49 904 72 ∧ Xi T49 904 72 ≤ 2600 := hHT49.c _ _
  have w2659 : 0 ≤ Xi T49 904 73 ∧ Xi T49 904 73 ≤ 5 := hHT49.c _ _
  have w2660 : 0 ≤ Xi T49 904 74 ∧ Xi T49 904 74 ≤ 2600 := hHT49.c _ _
  have w2661 : -2 ≤ Xi T49 904 78 ∧ Xi T49 904 78 ≤ 5010 := hHT49.c _ _
  have w2662 : 0 ≤ Xi T49 904 81 ∧ Xi T49 904 81 ≤ 5010 := hHT49.c _ _
  have w2663 : 0 ≤ Xi T49 904 94 ∧ Xi T49 904 94 ≤ 1700 := hHT49.c _ _
  have w2664 : 0 ≤ Xi T49 904 98 ∧ Xi T49 904 98 ≤ 1700 := hHT49.c _ _
  refine l_aload_n rfl rfl ?_
  have s410 := q20.2.2.2.2.2.2.2.2.2 (by omega)
  have z410_0 : Xi S 950 0 + Xi S 951 0 ≤ n := (hv 0 (by omega)).1
  have z410_1 : Xi S 950 1 + Xi S 951 1 ≤ n := (hv 1 (by omega)).1
  have z410_2 : Xi S 950 2 + Xi S 951 2 ≤ n := (hv 2 (by omega)).1
  refine l_iconst rfl ?_
  have w2671 : 0 ≤ Xi T49 904 16 ∧ Xi T49 904 16 ≤ 16 := hHT49.c _ _
  refine l_callV rfl rfl rfl (t_mo_kindOfRun__2 hHT49 n 0 ⟨by omega, by omega⟩ (by first | assumption | exact (TK_FR hFT49 rfl (by assumption : TK S _))) (by first | assumption | exact (RNV_FR hFT49 rfl (by assumption : RNV S _))) (by first | assumption | omega) (by first | assumption | exact (LXM_FR hFT49 rfl (by assumption : LXM S))) _) ?_
  rintro _ T50 ⟨hHT50, w2688, z2687, rfl, w2687, w2683, w2684, w2685, w2686⟩
  have hFT50 : FR md_mo_asked S T50 := FR.tr hFT49 w2688 rfl
  show Rl _ _ _ _ _ [iv z2687] _ _
  have r412 : z2687 = rnR S 0 0 := (by assumption : z2687 = rnR T49 _ _).trans (rnR_FR hFT49 rfl rfl)
  refine l_pop rfl rfl ?_
  refine l_aload_n rfl rfl ?_
  refine l_iconst rfl ?_
  refine l_aload_n rfl rfl ?_
  refine l_gfi rfl rfl rfl rfl rfl ?_
  have w2689 : (Xi T50 904 23) = (Xi T49 904 23) := (show Xi T50 904 23 = Xi T49 904 23 from w2688.x _ _ rfl)
  rw [w2689]
  refine l_bipush rfl rfl ?_
  have w2690 : 0 ≤ Xi T50 904 106 ∧ Xi T50 904 106 ≤ 9 := hHT50.c _ _
  have w2691 : Xi T50 904 108 = Xi T49 904 108 := (show Xi T50 904 108 = Xi T49 904 108 from w2688.x _ _ rfl)
  have w2704 : Xi T50 904 69 = Xi T49 904 69 := (show Xi T50 904 69 = Xi T49 904 69 from w2688.x _ _ rfl)
  refine l_callV rfl rfl rfl (t_mo_mustBeNew__2 hHT50 n 1 (Xi T49 904 23) 24 ⟨by omega, by omega⟩ ⟨by omega, by omega⟩ ⟨by omega, by omega⟩ (by first | assumption | exact (TK_FR hFT50 rfl (by assumption : TK S _))) (by first | assumption | exact (RNV_FR hFT50 rfl (by assumption : RNV S _))) (by first | assumption | omega) (by first | assumption | exact fun k hk => absurd hk (by omega) | exact (NWV_FR w2688 rfl (by assumption : NWV T49))) (by first | assumption | omega) _) ?_
  rintro _ T51 ⟨hHT51, w2729, rfl, w2724, g424, w2725, w2726, w2727⟩
  have hFT51 : FR md_mo_asked S T51 := FR.tr hFT50 w2729 rfl
  show Rl _ _ _ _ _ [] _ _
  have G424 : Xi T51 904 106 = 0 → Xi S 904 23 < 24 ∧ Xi S 951 1 ≤ 3 := fun q => (by have t := g424 q; have u := t.2.1; rw [(hFT50.cx 951 rfl _).1] at u; have v : Xi T50 904 23 = Xi S 904 23 := hFT50.x 904 23 rfl; exact ⟨by omega, u⟩)
  have w2730 : 0 ≤ Xi T51 904 106 ∧ Xi T51 904 106 ≤ 9 := hHT51.c _ _
  have w2731 : 0 ≤ Xi T51 904 108 ∧ Xi T51 904 108 ≤ 2600 := hHT51.c _ _
  have w2732 : Xi T51 904 109 = Xi T49 904 109 := (show Xi T51 904 109 = Xi T50 904 109 from w2729.x _ _ rfl).trans ((show Xi T50 904 109 = Xi T49 904 109 from w2688.x _ _ rfl))
  have w2733 : Xi T51 904 115 = Xi T49 904 115 := (show Xi T51 904 115 = Xi T50 904 115 from w2729.x _ _ rfl).trans ((show Xi T50 904 115 = Xi T49 904 115 from w2688.x _ _ rfl))
  have w2735 : Xi T51 904 116 = Xi T49 904 116 := (show Xi T51 904 116 = Xi T50 904 116 from w2729.x _ _ rfl).trans ((show Xi T50 904 116 = Xi T49 904 116 from w2688.x _ _ rfl))
  have w2737 : Xi T51 904 117 = Xi T49 904 117 := (show Xi T51 904 117 = Xi T50 904 117 from w2729.x _ _ rfl).trans ((show Xi T50 904 117 = Xi T49 904 117 from w2688.x _ _ rfl))
  have w2739 : Xi T51 904 142 = Xi T49 904 142 := (show Xi T51 904 142 = Xi T50 904 142 from w2729.x _ _ rfl).trans ((show Xi T50 904 142 = Xi T49 904 142 from w2688.x _ _ rfl))
  have w2740 : 0 ≤ Xi T49 904 142 ∧ Xi T49 904 142 ≤ 4 := hHT49.c _ _
  have w2741 : Xi T51 904 60 = Xi T49 904 60 := (show Xi T51 904 60 = Xi T50 904 60 from w2729.x _ _ rfl).trans ((show Xi T50 904 60 = Xi T49 904 60 from w2688.x _ _ rfl))
  have w2743 : Xi T51 904 69 = Xi T49 904 69 := (show Xi T51 904 69 = Xi T50 904 69 from w2729.x _ _ rfl).trans ((show Xi T50 904 69 = Xi T49 904 69 from w2688.x _ _ rfl))
  have w2745 : Xi T51 904 70 = Xi T49 904 70 := (show Xi T51 904 70 = Xi T50 904 70 from w2729.x _ _ rfl).trans ((show Xi T50 904 70 = Xi T49 904 70 from w2688.x _ _ rfl))
  have w2747 : Xi T51 904 71 = Xi T49 904 71 := (show Xi T51 904 71 = Xi T50 904 71 from w2729.x _ _ rfl).trans ((show Xi T50 904 71 = Xi T49 904 71 from w2688.x _ _ rfl))
  have w2749 : Xi T51 904 72 = Xi T49 904 72 := (show Xi T51 904 72 = Xi T50 904 72 from w2729.x _ _ rfl).trans ((show Xi T50 904 72 = Xi T49 904 72 from w2688.x _ _ rfl))
  have w2751 : Xi T51 904 73 = Xi T49 904 73 := (show Xi T51 904 73 = Xi T50 904 73 from w2729.x _ _ rfl).trans ((show Xi T50 904 73 = Xi T49 904 73 from w2688.x _ _ rfl))
  have w2753 : Xi T51 904 74 = Xi T49 904 74 := (show Xi T51 904 74 = Xi T50 904 74 from w2729.x _ _ rfl).trans ((show Xi T50 904 74 = Xi T49 904 74 from w2688.x _ _ rfl))
  have w2755 : Xi T51 904 78 = Xi T49 904 78 := (show Xi T51 904 78 = Xi T50 904 78 from w2729.x _ _ rfl).trans ((show Xi T50 904 78 = Xi T49 904 78 from w2688.x _ _ rfl))
  have w2757 : Xi T51 904 81 = Xi T49 904 81 := (show Xi T51 904 81 = Xi T50 904 81 from w2729.x _ _ rfl).trans ((show Xi T50 904 81 = Xi T49 904 81 from w2688.x _ _ rfl))
  have w2759 : Xi T51 904 94 = Xi T49 904 94 := (show Xi T51 904 94 = Xi T50 904 94 from w2729.x _ _ rfl).trans ((show Xi T50 904 94 = Xi T49 904 94 from w2688.x _ _ rfl))
  have w2761 : Xi T51 904 98 = Xi T49 904 98 := (show Xi T51 904 98 = Xi T50 904 98 from w2729.x _ _ rfl).trans ((show Xi T50 904 98 = Xi T49 904 98 from w2688.x _ _ rfl))
  exact Rl_weak (C427 T51 hHT51 hFT51  (by omega) (by omega) (by omega) (by omega) (by omega) (by omega) (by omega) (by omega) (by omega) (by omega) (by omega) (by omega) (by first | assumption | exact fun k hk => absurd hk (by omega) | exact (by assumption : NWV T51)) (by first | assumption | exact (RDT_FR hHT50 w2729 rfl rfl rfl (RDT_FR hHT49 w2688 rfl rfl rfl (by assumption : RDT T49)))) (by omega) (by omega) (by omega) (fun q => ⟨by omega, by omega⟩) (G424)) (And.intro rfl (True.intro))
set_option maxRecDepth 100000 in
set_option maxHeartbeats 8000000 in
theorem c490_mo_asked {S : sS} (hH : HI S) (n : Nat) (dd : Nat) (first : Int) (hfirst : 0 ≤ first ∧ first ≤ 5001) (hT : TK S n) (hv : RNV S n) (hM : LXM S) (hB : ABV S) (hC : DCM S) (hK : TXK S n) (hX : TXM S) (hq : SNQ S n) (hap : AP9 S n) (h94 : Xi S 904 94 ≤ 1668) (hRD : RDT S) (hPF : PF S) (hdt : Xi S 904 70 = 20 → first ≤ dd ∧ dd < n ∧ Xi S 907 dd = 46) (d : Nat) : ∀  (T52 : sS) (_ : HI T52) (_ : FR md_mo_asked S T52), (Xi T52 904 117 = Xi S 904 117) → (Xi T52 904 60 = Xi S 904 60) → (Xi T52 904 69 = Xi S 904 69) → (Xi T52 904 70 = Xi S 904 70) → (Xi T52 904 71 = Xi S 904 71) → (Xi T52 904 72 = Xi S 904 72) → (Xi T52 904 73 = Xi S 904 73) → (Xi T52 904 74 = Xi S 904 74) → (Xi T52 904 78 = Xi S 904 78) → (Xi T52 904 81 = Xi S 904 81) → (Xi T52 904 94 = Xi S 904 94) → (Xi T52 904 98 = Xi S 904 98) → (NWV T52) → (RDT T52) → (Xi S 904 70 = 19) → (3 ≤ Xi S 904 69) → (Xi T52 904 106 = 0 → r2R S 1 0 1 ≠ -1) → (Xi T52 904 106 = 0 → Xi S 904 41 < 6 ∧ Xi S 951 0 ≤ 3) → Rl lay0 (d + 12) m_mo_asked 490 [(0, .ref 904)] [] T52 (Q_mo_asked S n dd first) := by
  have hF : FR md_mo_asked S S := FR.rf
  have w1 : 0 ≤ Xi S 904 106 ∧ Xi S 904 106 ≤ 9 := hH.c _ _
  have w2 : 0 ≤ Xi S 904 108 ∧ Xi S 904 108 ≤ 2600 := hH.c _ _
  have w3 : -1 ≤ Xi S 904 115 ∧ Xi S 904 115 ≤ 15 := hH.c _ _
  have w4 : -1 ≤ Xi S 904 116 ∧ Xi S 904 116 ≤ 15 := hH.c _ _
  have w5 : 0 ≤ Xi S 904 117 ∧ Xi S 904 117 ≤ 480 := hH.c _ _
  have w6 : 0 ≤ Xi S 904 23 ∧ Xi S 904 23 ≤ 24 := hH.c _ _
  have w7 : 0 ≤ Xi S 904 41 ∧ Xi S 904 41 ≤ 6 := hH.c _ _
  have w8 : -1 ≤ Xi S 904 60 ∧ Xi S 904 60 ≤ 23 := hH.c _ _
  have w9 : 0 ≤ Xi S 904 69 ∧ Xi S 904 69 ≤ 2600 := hH.c _ _
  have w10 : 0 ≤ Xi S 904 70 ∧ Xi S 904 70 ≤ 20 := hH.c _ _
  have w11 : 0 ≤ Xi S 904 71 ∧ Xi S 904 71 ≤ 2600 := hH.c _ _
  have w12 : 0 ≤ Xi S 904 72 ∧ Xi S 904 72 ≤ 2600 := hH.c _ _
  have w13 : 0 ≤ Xi S 904 73 ∧ Xi S 904 73 ≤ 5 := hH.c _ _
  have w14 : 0 ≤ Xi S 904 74 ∧ Xi S 904 74 ≤ 2600 := hH.c _ _
  have w15 : -2 ≤ Xi S 904 78 ∧ Xi S 904 78 ≤ 5010 := hH.c _ _
  have w16 : 0 ≤ Xi S 904 81 ∧ Xi S 904 81 ≤ 5010 := hH.c _ _
  have w17 : 0 ≤ Xi S 904 94 ∧ Xi S 904 94 ≤ 1700 := hH.c _ _
  have w18 : 0 ≤ Xi S 904 98 ∧ Xi S 904 98 ≤ 1700 := hH.c _ _
  have w19 : 0 ≤ Xi S 951 0 ∧ Xi S 951 0 ≤ 5010 := hH.c _ _
  have w20 : 0 ≤ Xi S 951 1 ∧ Xi S 951 1 ≤ 5010 := hH.c _ _
  have hn5 := hT.1
  have hc69 : 0 ≤ Xi S 904 69 ∧ Xi S 904 69 ≤ 2600 := hH.c _ _
  have hc70 : 0 ≤ Xi S 904 70 ∧ Xi S 904 70 ≤ 20 := hH.c _ _
  have hc23 : 0 ≤ Xi S 904 23 ∧ Xi S 904 23 ≤ 24 := hH.c _ _
  have hrf : ∀ r : Int, 0 ≤ r → r < Xi S 904 69 → Xi S 950 r.toNat + Xi S 951 r.toNat ≤ n ∧ 1 ≤ Xi S 951 r.toNat := fun r a b => hv r.toNat (by omega)
  have hq0 : KQL S S (Xi S 904 117) := KQL.rf
  intro T52 hHT52 hFT52 w2763 w2764 w2765 w2766 w2767 w2768 w2769 w2770 w2771 w2772 w2773 w2774 N490 R490 w2775 w2776 E490 G490
  have w2777 : Xi T52 904 102 = Xi S 904 102 := hFT52.x _ _ rfl
  have w2778 : Xi T52 904 103 = Xi S 904 103 := hFT52.x _ _ rfl
  have w2779 : Xi T52 904 16 = Xi S 904 16 := hFT52.x _ _ rfl
  have w2780 : Xi T52 904 18 = Xi S 904 18 := hFT52.x _ _ rfl
  have w2781 : Xi T52 904 19 = Xi S 904 19 := hFT52.x _ _ rfl
  have w2782 : Xi T52 904 23 = Xi S 904 23 := hFT52.x _ _ rfl
  have w2783 : Xi T52 904 30 = Xi S 904 30 := hFT52.x _ _ rfl
  have w2784 : Xi T52 904 41 = Xi S 904 41 := hFT52.x _ _ rfl
  have w2785 : Xi T52 904 47 = Xi S 904 47 := hFT52.x _ _ rfl
  have w2786 : Xi T52 904 49 = Xi S 904 49 := hFT52.x _ _ rfl
  have w2787 : Xi T52 904 55 = Xi S 904 55 := hFT52.x _ _ rfl
  have w2788 : Xi T52 904 60 = Xi S 904 60 := hFT52.x _ _ rfl
  have w2789 : Xi T52 904 69 = Xi S 904 69 := hFT52.x _ _ rfl
  have w2790 : Xi T52 904 70 = Xi S 904 70 := hFT52.x _ _ rfl
  have w2791 : Xi T52 904 71 = Xi S 904 71 := hFT52.x _ _ rfl
  have w2792 : Xi T52 904 72 = Xi S 904 72 := hFT52.x _ _ rfl
  have w2793 : Xi T52 904 73 = Xi S 904 73 := hFT52.x _ _ rfl
  have w2794 : Xi T52 904 74 = Xi S 904 74 := hFT52.x _ _ rfl
  have w2795 : Xi T52 904 78 = Xi S 904 78 := hFT52.x _ _ rfl
  have w2796 : Xi T52 904 81 = Xi S 904 81 := hFT52.x _ _ rfl
  have w2797 : Xi T52 904 94 = Xi S 904 94 := hFT52.x _ _ rfl
  have w2798 : Xi T52 904 98 = Xi S 904 98 := hFT52.x _ _ rfl
  have w2799 : Xi T52 951 0 = Xi S 951 0 := hFT52.x _ _ rfl
  have w2800 : Xi T52 951 1 = Xi S 951 1 := hFT52.x _ _ rfl
  have w2801 : 0 ≤ Xi T52 904 106 ∧ Xi T52 904 106 ≤ 9 := hHT52.c _ _
  have w2802 : 0 ≤ Xi T52 904 117 ∧ Xi T52 904 117 ≤ 480 := hHT52.c _ _
  have w2803 : -1 ≤ Xi T52 904 60 ∧ Xi T52 904 60 ≤ 23 := hHT52.c _ _
  have w2804 : 0 ≤ Xi T52 904 69 ∧ Xi T52 904 69 ≤ 2600 := hHT52.c _ _
  have w2805 : 0 ≤ Xi T52 904 70 ∧ Xi T52 904 70 ≤ 20 := hHT52.c _ _
  have w2806 : 0 ≤ Xi T52 904 71 ∧ Xi T52 904 71 ≤ 2600 := hHT52.c _ _
  have w2807 : 0 ≤ Xi T52 904 72 ∧ Xi T52 904 72 ≤ 2600 := hHT52.c _ _
  have w2808 : 0 ≤ Xi T52 904 73 ∧ Xi T52 904 73 ≤ 5 := hHT52.c _ _
  have w2809 : 0 ≤ Xi T52 904 74 ∧ Xi T52 904 74 ≤ 2600 := hHT52.c _ _
  have w2810 : -2 ≤ Xi T52 904 78 ∧ Xi T52 904 78 ≤ 5010 := hHT52.c _ _
  have w2811 : 0 ≤ Xi T52 904 81 ∧ Xi T52 904 81 ≤ 5010 := hHT52.c _ _
  have w2812 : 0 ≤ Xi T52 904 94 ∧ Xi T52 904 94 ≤ 1700 := hHT52.c _ _
  have w2813 : 0 ≤ Xi T52 904 98 ∧ Xi T52 904 98 ≤ 1700 := hHT52.c _ _
  refine l_aload_n rfl rfl ?_
  have z490_2 : Xi S 950 2 + Xi S 951 2 ≤ n ∧ 1 ≤ Xi S 951 2 := hv 2 (by omega)
  refine l_aload_n rfl rfl ?_
  refine l_iconst rfl ?_
  have w2815 : 0 ≤ Xi T52 904 108 ∧ Xi T52 904 108 ≤ 2600 := hHT52.c _ _
  have w2816 : -1 ≤ Xi T52 904 115 ∧ Xi T52 904 115 ≤ 15 := hHT52.c _ _
  have w2817 : -1 ≤ Xi T52 904 116 ∧ Xi T52 904 116 ≤ 15 := hHT52.c _ _
  have w2819 : 0 ≤ Xi T52 904 142 ∧ Xi T52 904 142 ≤ 4 := hHT52.c _ _
  have w2820 : 0 ≤ Xi T52 904 16 ∧ Xi T52 904 16 ≤ 16 := hHT52.c _ _
  refine l_callV rfl rfl rfl (t_mo_kindOrPlural__2 hHT52 n 2 ⟨by omega, by omega⟩ (by first | assumption | exact (TK_FR hFT52 rfl (by assumption : TK S _))) (by first | assumption | exact (RNV_FR hFT52 rfl (by assumption : RNV S _))) (by first | assumption | omega) (by first | assumption | exact (LXM_FR hFT52 rfl (by assumption : LXM S))) _) ?_
  rintro _ _ ⟨rfl, z2834, rfl, w2834, w2832, w2833⟩
  show Rl _ _ _ _ _ [iv z2834, .ref 904] _ _
  have r493 : z2834 = r2R S 2 0 1 := (by assumption : z2834 = r2R T52 _ _ _).trans (r2R_FR hFT52 rfl rfl)
  refine l_iconst rfl ?_
  refine l_icmp_eq rfl rfl (by unfold rg; omega) (by unfold rg; omega) (fun w2835 => ?_) (fun w2836 => ?_)
  · refine l_iconst rfl ?_
    refine l_iconst rfl ?_
    refine l_aload_n rfl rfl ?_
    refine l_gfr rfl rfl rfl rfl rfl (hHT52.r 904 67 950 rfl) ?_
    refine l_iconst rfl ?_
    refine l_iaload (n := 2600) rfl rfl (by omega) (by omega) (by unfold rg; omega) ?_
    have w2837 : 0 ≤ (Xi T52 950 ((2 : Int).toNat)) ∧ (Xi T52 950 ((2 : Int).toNat)) ≤ 5010 := hHT52.c _ _
    have w2838 : (Xi T52 950 ((2 : Int).toNat)) = Xi T52 950 2 := rfl
    have e511 : (Xi T52 950 ((2 : Int).toNat)) = Xi S 950 2 := by first | rfl | exact (hFT52.cx 950 rfl _).1
    refine l_callV rfl rfl rfl (t_mo_need hHT52 0 4 (Xi T52 950 ((2 : Int).toNat)) ⟨by omega, by omega⟩ ⟨by omega, by omega⟩ ⟨by omega, by omega⟩ _) ?_
    rintro _ T53 ⟨hHT53, w2859, rfl, w2856, w2857⟩
    have hFT53 : FR md_mo_asked S T53 := FR.tr hFT52 w2859 rfl
    show Rl _ _ _ _ _ [] _ _
    have y512_69 : Xi T53 904 69 = Xi T52 904 69 := ((show Xi T53 904 69 = Xi T52 904 69 from w2859.x _ _ rfl))
    have y512_70 : Xi T53 904 70 = Xi T52 904 70 := ((show Xi T53 904 70 = Xi T52 904 70 from w2859.x _ _ rfl))
    have y512_71 : Xi T53 904 71 = Xi T52 904 71 := ((show Xi T53 904 71 = Xi T52 904 71 from w2859.x _ _ rfl))
    have y512_72 : Xi T53 904 72 = Xi T52 904 72 := ((show Xi T53 904 72 = Xi T52 904 72 from w2859.x _ _ rfl))
    have y512_73 : Xi T53 904 73 = Xi T52 904 73 := ((show Xi T53 904 73 = Xi T52 904 73 from w2859.x _ _ rfl))
    have y512_74 : Xi T53 904 74 = Xi T52 904 74 := ((show Xi T53 904 74 = Xi T52 904 74 from w2859.x _ _ rfl))
    have y512_78 : Xi T53 904 78 = Xi T52 904 78 := ((show Xi T53 904 78 = Xi T52 904 78 from w2859.x _ _ rfl))
    have y512_81 : Xi T53 904 81 = Xi T52 904 81 := ((show Xi T53 904 81 = Xi T52 904 81 from w2859.x _ _ rfl))
    have y512_94 : Xi T53 904 94 = Xi T52 904 94 := ((show Xi T53 904 94 = Xi T52 904 94 from w2859.x _ _ rfl))
    have y512_98 : Xi T53 904 98 = Xi T52 904 98 := ((show Xi T53 904 98 = Xi T52 904 98 from w2859.x _ _ rfl))
    have y512_60 : Xi T53 904 60 = Xi T52 904 60 := ((show Xi T53 904 60 = Xi T52 904 60 from w2859.x _ _ rfl))
    have y512_117 : Xi T53 904 117 = Xi T52 904 117 := ((show Xi T53 904 117 = Xi T52 904 117 from w2859.x _ _ rfl))
    have u512_41 : Xi T53 904 41 = Xi S 904 41 := hFT53.x 904 41 rfl
    have F512 : Xi T53 904 106 = 0 → DOK T53 := fun q => dok_19 (by omega) (⟨by have t := G490 (by omega); omega, by rw [(hFT53.cx 951 rfl _).1]; exact (G490 (by omega)).2, by rw [r2R_FR hFT53 rfl rfl]; exact E490 (by omega), by rw [r2R_FR hFT53 rfl rfl]; omega⟩)
    refine l_goto rfl rfl ?_
    refine l_return rfl rfl ?_
    have w2860 : 0 ≤ Xi T53 904 106 ∧ Xi T53 904 106 ≤ 9 := hHT53.c _ _
    exact ⟨hHT53, hFT53, rfl, (by assumption), (by first | exact fun q => by assumption | assumption | exact fun q => (RDT_FR hHT52 w2859 rfl rfl rfl (by assumption : RDT T52)))⟩
  · refine l_iconst rfl ?_
    refine l_goto rfl rfl ?_
    refine l_iconst rfl ?_
    refine l_aload_n rfl rfl ?_
    refine l_gfr rfl rfl rfl rfl rfl (hHT52.r 904 67 950 rfl) ?_
    refine l_iconst rfl ?_
    refine l_iaload (n := 2600) rfl rfl (by omega) (by omega) (by unfold rg; omega) ?_
    have w2894 : 0 ≤ (Xi T52 950 ((2 : Int).toNat)) ∧ (Xi T52 950 ((2 : Int).toNat)) ≤ 5010 := hHT52.c _ _
    have w2895 : (Xi T52 950 ((2 : Int).toNat)) = Xi T52 950 2 := rfl
    have e511 : (Xi T52 950 ((2 : Int).toNat)) = Xi S 950 2 := by first | rfl | exact (hFT52.cx 950 rfl _).1
    refine l_callV rfl rfl rfl (t_mo_need hHT52 1 4 (Xi T52 950 ((2 : Int).toNat)) ⟨by omega, by omega⟩ ⟨by omega, by omega⟩ ⟨by omega, by omega⟩ _) ?_
    rintro _ T54 ⟨hHT54, w2916, rfl, w2913, w2914⟩
    have hFT54 : FR md_mo_asked S T54 := FR.tr hFT52 w2916 rfl
    show Rl _ _ _ _ _ [] _ _
    have y512_69 : Xi T54 904 69 = Xi T52 904 69 := ((show Xi T54 904 69 = Xi T52 904 69 from w2916.x _ _ rfl))
    have y512_70 : Xi T54 904 70 = Xi T52 904 70 := ((show Xi T54 904 70 = Xi T52 904 70 from w2916.x _ _ rfl))
    have y512_71 : Xi T54 904 71 = Xi T52 904 71 := ((show Xi T54 904 71 = Xi T52 904 71 from w2916.x _ _ rfl))
    have y512_72 : Xi T54 904 72 = Xi T52 904 72 := ((show Xi T54 904 72 = Xi T52 904 72 from w2916.x _ _ rfl))
    have y512_73 : Xi T54 904 73 = Xi T52 904 73 := ((show Xi T54 904 73 = Xi T52 904 73 from w2916.x _ _ rfl))
    have y512_74 : Xi T54 904 74 = Xi T52 904 74 := ((show Xi T54 904 74 = Xi T52 904 74 from w2916.x _ _ rfl))
    have y512_78 : Xi T54 904 78 = Xi T52 904 78 := ((show Xi T54 904 78 = Xi T52 904 78 from w2916.x _ _ rfl))
    have y512_81 : Xi T54 904 81 = Xi T52 904 81 := ((show Xi T54 904 81 = Xi T52 904 81 from w2916.x _ _ rfl))
    have y512_94 : Xi T54 904 94 = Xi T52 904 94 := ((show Xi T54 904 94 = Xi T52 904 94 from w2916.x _ _ rfl))
    have y512_98 : Xi T54 904 98 = Xi T52 904 98 := ((show Xi T54 904 98 = Xi T52 904 98 from w2916.x _ _ rfl))
    have y512_60 : Xi T54 904 60 = Xi T52 904 60 := ((show Xi T54 904 60 = Xi T52 904 60 from w2916.x _ _ rfl))
    have y512_117 : Xi T54 904 117 = Xi T52 904 117 := ((show Xi T54 904 117 = Xi T52 904 117 from w2916.x _ _ rfl))
    have u512_41 : Xi T54 904 41 = Xi S 904 41 := hFT54.x 904 41 rfl
    have F512 : Xi T54 904 106 = 0 → DOK T54 := fun q => dok_19 (by omega) (⟨by have t := G490 (by omega); omega, by rw [(hFT54.cx 951 rfl _).1]; exact (G490 (by omega)).2, by rw [r2R_FR hFT54 rfl rfl]; exact E490 (by omega), by rw [r2R_FR hFT54 rfl rfl]; omega⟩)
    refine l_goto rfl rfl ?_
    refine l_return rfl rfl ?_
    have w2917 : 0 ≤ Xi T54 904 106 ∧ Xi T54 904 106 ≤ 9 := hHT54.c _ _
    exact ⟨hHT54, hFT54, rfl, (by assumption), (by first | exact fun q => by assumption | assumption | exact fun q => (RDT_FR hHT52 w2916 rfl rfl rfl (by assumption : RDT T52)))⟩
/-! SAFETY of methods: printed by wip/safe (vc.py, decl.py) -/
set_option maxRecDepth 100000 in
set_option maxHeartbeats 8000000 in
theorem c454_mo_asked {S : sS} (hH : HI S) (n : Nat) (dd : Nat) (first : Int) (hfirst : 0 ≤ first ∧ first ≤ 5001) (hT : TK S n) (hv : RNV S n) (hM : LXM S) (hB : ABV S) (hC : DCM S) (hK : TXK S n) (hX : TXM S) (hq : SNQ S n) (hap : AP9 S n) (h94 : Xi S 904 94 ≤ 1668) (hRD : RDT S) (hPF : PF S) (hdt : Xi S 904 70 = 20 → first ≤ dd ∧ dd < n ∧ Xi S 907 dd = 46) (d : Nat) : ∀  (T55 : sS) (_ : HI T55) (_ : FR md_mo_asked S T55), (Xi T55 904 117 = Xi S 904 117) → (Xi T55 904 69 = Xi S 904 69) → (Xi T55 904 70 = Xi S 904 70) → (Xi T55 904 71 = Xi S 904 71) → (Xi T55 904 72 = Xi S 904 72) → (Xi T55 904 73 = Xi S 904 73) → (Xi T55 904 74 = Xi S 904 74) → (Xi T55 904 78 = Xi S 904 78) → (Xi T55 904 81 = Xi S 904 81) → (Xi T55 904 94 = Xi S 904 94) → (Xi T55 904 98 = Xi S 904 98) → (Xi T55 904 60 = Xi S 904 60) → (Xi T55 904 106 = 0) → (Xi T55 904 108 = 0) → (Xi T55 904 115 = -1) → (Xi T55 904 116 = -1) → (SNQ T55 n) → (RDT T55) → (KQL T55 S (Xi S 904 117)) → (Xi S 904 70 = 19) → Rl lay0 (d + 12) m_mo_asked 454 [(0, .ref 904)] [] T55 (Q_mo_asked S n dd first) := by
  have C490 := c490_mo_asked hH n dd first hfirst hT hv hM hB hC hK hX hq hap h94 hRD hPF hdt d 
  have hF : FR md_mo_asked S S := FR.rf
  have w1 : 0 ≤ Xi S 904 106 ∧ Xi S 904 106 ≤ 9 := hH.c _ _
  have w2 : 0 ≤ Xi S 904 108 ∧ Xi S 904 108 ≤ 2600 := hH.c _ _
  have w3 : -1 ≤ Xi S 904 115 ∧ Xi S 904 115 ≤ 15 := hH.c _ _
  have w4 : -1 ≤ Xi S 904 116 ∧ Xi S 904 116 ≤ 15 := hH.c _ _
  have w5 : 0 ≤ Xi S 904 117 ∧ Xi S 904 117 ≤ 480 := hH.c _ _
  have w6 : 0 ≤ Xi S 904 23 ∧ Xi S 904 23 ≤ 24 := hH.c _ _
  have w7 : 0 ≤ Xi S 904 41 ∧ Xi S 904 41 ≤ 6 := hH.c _ _
  have w8 : -1 ≤ Xi S 904 60 ∧ Xi S 904 60 ≤ 23 := hH.c _ _
  have w9 : 0 ≤ Xi S 904 69 ∧ Xi S 904 69 ≤ 2600 := hH.c _ _
  have w10 : 0 ≤ Xi S 904 70 ∧ Xi S 904 70 ≤ 20 := hH.c _ _
  have w11 : 0 ≤ Xi S 904 71 ∧ Xi S 904 71 ≤ 2600 := hH.c _ _
  have w12 : 0 ≤ Xi S 904 72 ∧ Xi S 904 72 ≤ 2600 := hH.c _ _
  have w13 : 0 ≤ Xi S 904 73 ∧ Xi S 904 73 ≤ 5 := hH.c _ _
  have w14 : 0 ≤ Xi S 904 74 ∧ Xi S 904 74 ≤ 2600 := hH.c _ _
  have w15 : -2 ≤ Xi S 904 78 ∧ Xi S 904 78 ≤ 5010 := hH.c _ _
  have w16 : 0 ≤ Xi S 904 81 ∧ Xi S 904 81 ≤ 5010 := hH.c _ _
  have w17 : 0 ≤ Xi S 904 94 ∧ Xi S 904 94 ≤ 1700 := hH.c _ _
  have w18 : 0 ≤ Xi S 904 98 ∧ Xi S 904 98 ≤ 1700 := hH.c _ _
  have w19 : 0 ≤ Xi S 951 0 ∧ Xi S 951 0 ≤ 5010 := hH.c _ _
  have w20 : 0 ≤ Xi S 951 1 ∧ Xi S 951 1 ≤ 5010 := hH.c _ _
  have hn5 := hT.1
  have hc69 : 0 ≤ Xi S 904 69 ∧ Xi S 904 69 ≤ 2600 := hH.c _ _
  have hc70 : 0 ≤ Xi S 904 70 ∧ Xi S 904 70 ≤ 20 := hH.c _ _
  have hc23 : 0 ≤ Xi S 904 23 ∧ Xi S 904 23 ≤ 24 := hH.c _ _
  have hrf : ∀ r : Int, 0 ≤ r → r < Xi S 904 69 → Xi S 950 r.toNat + Xi S 951 r.toNat ≤ n ∧ 1 ≤ Xi S 951 r.toNat := fun r a b => hv r.toNat (by omega)
  have hq0 : KQL S S (Xi S 904 117) := KQL.rf
  intro T55 hHT55 hFT55 w2951 w2952 w2953 w2954 w2955 w2956 w2957 w2958 w2959 w2960 w2961 w2962 w2963 w2964 w2965 w2966 q20 r20 K20 w2967
  have w2968 : Xi T55 904 102 = Xi S 904 102 := hFT55.x _ _ rfl
  have w2969 : Xi T55 904 103 = Xi S 904 103 := hFT55.x _ _ rfl
  have w2970 : Xi T55 904 16 = Xi S 904 16 := hFT55.x _ _ rfl
  have w2971 : Xi T55 904 18 = Xi S 904 18 := hFT55.x _ _ rfl
  have w2972 : Xi T55 904 19 = Xi S 904 19 := hFT55.x _ _ rfl
  have w2973 : Xi T55 904 23 = Xi S 904 23 := hFT55.x _ _ rfl
  have w2974 : Xi T55 904 30 = Xi S 904 30 := hFT55.x _ _ rfl
  have w2975 : Xi T55 904 41 = Xi S 904 41 := hFT55.x _ _ rfl
  have w2976 : Xi T55 904 47 = Xi S 904 47 := hFT55.x _ _ rfl
  have w2977 : Xi T55 904 49 = Xi S 904 49 := hFT55.x _ _ rfl
  have w2978 : Xi T55 904 55 = Xi S 904 55 := hFT55.x _ _ rfl
  have w2979 : Xi T55 904 60 = Xi S 904 60 := hFT55.x _ _ rfl
  have w2980 : Xi T55 904 69 = Xi S 904 69 := hFT55.x _ _ rfl
  have w2981 : Xi T55 904 70 = Xi S 904 70 := hFT55.x _ _ rfl
  have w2982 : Xi T55 904 71 = Xi S 904 71 := hFT55.x _ _ rfl
  have w2983 : Xi T55 904 72 = Xi S 904 72 := hFT55.x _ _ rfl
  have w2984 : Xi T55 904 73 = Xi S 904 73 := hFT55.x _ _ rfl
  have w2985 : Xi T55 904 74 = Xi S 904 74 := hFT55.x _ _ rfl
  have w2986 : Xi T55 904 78 = Xi S 904 78 := hFT55.x _ _ rfl
  have w2987 : Xi T55 904 81 = Xi S 904 81 := hFT55.x _ _ rfl
  have w2988 : Xi T55 904 94 = Xi S 904 94 := hFT55.x _ _ rfl
  have w2989 : Xi T55 904 98 = Xi S 904 98 := hFT55.x _ _ rfl
  have w2990 : Xi T55 951 0 = Xi S 951 0 := hFT55.x _ _ rfl
  have w2991 : Xi T55 951 1 = Xi S 951 1 := hFT55.x _ _ rfl
  have w2992 : 0 ≤ Xi T55 904 106 ∧ Xi T55 904 106 ≤ 9 := hHT55.c _ _
  have w2993 : 0 ≤ Xi T55 904 108 ∧ Xi T55 904 108 ≤ 2600 := hHT55.c _ _
  have w2994 : -1 ≤ Xi T55 904 115 ∧ Xi T55 904 115 ≤ 15 := hHT55.c _ _
  have w2995 : -1 ≤ Xi T55 904 116 ∧ Xi T55 904 116 ≤ 15 := hHT55.c _ _
  have w2996 : 0 ≤ Xi T55 904 117 ∧ Xi T55 904 117 ≤ 480 := hHT55.c _ _
  have w2997 : -1 ≤ Xi T55 904 60 ∧ Xi T55 904 60 ≤ 23 := hHT55.c _ _
  have w2998 : 0 ≤ Xi T55 904 69 ∧ Xi T55 904 69 ≤ 2600 := hHT55.c _ _
  have w2999 : 0 ≤ Xi T55 904 70 ∧ Xi T55 904 70 ≤ 20 := hHT55.c _ _
  have w3000 : 0 ≤ Xi T55 904 71 ∧ Xi T55 904 71 ≤ 2600 := hHT55.c _ _
  have w3001 : 0 ≤ Xi T55 904 72 ∧ Xi T55 904 72 ≤ 2600 := hHT55.c _ _
  have w3002 : 0 ≤ Xi T55 904 73 ∧ Xi T55 904 73 ≤ 5 := hHT55.c _ _
  have w3003 : 0 ≤ Xi T55 904 74 ∧ Xi T55 904 74 ≤ 2600 := hHT55.c _ _
  have w3004 : -2 ≤ Xi T55 904 78 ∧ Xi T55 904 78 ≤ 5010 := hHT55.c _ _
  have w3005 : 0 ≤ Xi T55 904 81 ∧ Xi T55 904 81 ≤ 5010 := hHT55.c _ _
  have w3006 : 0 ≤ Xi T55 904 94 ∧ Xi T55 904 94 ≤ 1700 := hHT55.c _ _
  have w3007 : 0 ≤ Xi T55 904 98 ∧ Xi T55 904 98 ≤ 1700 := hHT55.c _ _
  refine l_aload_n rfl rfl ?_
  have s454 := q20.2.2.2.2.2.2.2.2.2 (by omega)
  have z454_0 : Xi S 950 0 + Xi S 951 0 ≤ n := (hv 0 (by omega)).1
  have z454_1 : Xi S 950 1 + Xi S 951 1 ≤ n := (hv 1 (by omega)).1
  have z454_2 : Xi S 950 2 + Xi S 951 2 ≤ n := (hv 2 (by omega)).1
  refine l_iconst rfl ?_
  refine l_aload_n rfl rfl ?_
  refine l_gfi rfl rfl rfl rfl rfl ?_
  refine l_bipush rfl rfl ?_
  refine l_callV rfl rfl rfl (t_mo_mustBeNew__2 hHT55 n 0 (Xi T55 904 41) 6 ⟨by omega, by omega⟩ ⟨by omega, by omega⟩ ⟨by omega, by omega⟩ (by first | assumption | exact (TK_FR hFT55 rfl (by assumption : TK S _))) (by first | assumption | exact (RNV_FR hFT55 rfl (by assumption : RNV S _))) (by first | assumption | omega) (by first | assumption | exact fun k hk => absurd hk (by omega) | exact (by assumption : NWV T55)) (by first | assumption | omega) _) ?_
  rintro _ T56 ⟨hHT56, w3030, rfl, w3025, g462, w3026, w3027, w3028⟩
  have hFT56 : FR md_mo_asked S T56 := FR.tr hFT55 w3030 rfl
  show Rl _ _ _ _ _ [] _ _
  have G462 : Xi T56 904 106 = 0 → Xi S 904 41 < 6 ∧ Xi S 951 0 ≤ 3 := fun q => (by have t := g462 q; have u := t.2.1; rw [(hFT55.cx 951 rfl _).1] at u; have v : Xi T55 904 41 = Xi S 904 41 := hFT55.x 904 41 rfl; exact ⟨by omega, u⟩)
  refine l_aload_n rfl rfl ?_
  refine l_aload_n rfl rfl ?_
  refine l_iconst rfl ?_
  have w3042 : Xi T56 904 16 = Xi T55 904 16 := (show Xi T56 904 16 = Xi T55 904 16 from w3030.x _ _ rfl)
  have w3043 : 0 ≤ Xi T55 904 16 ∧ Xi T55 904 16 ≤ 16 := hHT55.c _ _
  have w3046 : Xi T56 904 69 = Xi T55 904 69 := (show Xi T56 904 69 = Xi T55 904 69 from w3030.x _ _ rfl)
  refine l_callV rfl rfl rfl (t_mo_kindOrPlural__2 hHT56 n 1 ⟨by omega, by omega⟩ (by first | assumption | exact (TK_FR hFT56 rfl (by assumption : TK S _))) (by first | assumption | exact (RNV_FR hFT56 rfl (by assumption : RNV S _))) (by first | assumption | omega) (by first | assumption | exact (LXM_FR hFT56 rfl (by assumption : LXM S))) _) ?_
  rintro _ _ ⟨rfl, z3068, rfl, w3068, w3066, w3067⟩
  show Rl _ _ _ _ _ [iv z3068, .ref 904] _ _
  have r468 : z3068 = r2R S 1 0 1 := (by assumption : z3068 = r2R T56 _ _ _).trans (r2R_FR hFT56 rfl rfl)
  refine l_iconst rfl ?_
  refine l_icmp_eq rfl rfl (by unfold rg; omega) (by unfold rg; omega) (fun w3069 => ?_) (fun w3070 => ?_)
  · refine l_iconst rfl ?_
    refine l_iconst rfl ?_
    refine l_aload_n rfl rfl ?_
    refine l_gfr rfl rfl rfl rfl rfl (hHT56.r 904 67 950 rfl) ?_
    refine l_iconst rfl ?_
    refine l_iaload (n := 2600) rfl rfl (by omega) (by omega) (by unfold rg; omega) ?_
    have w3071 : 0 ≤ (Xi T56 950 ((1 : Int).toNat)) ∧ (Xi T56 950 ((1 : Int).toNat)) ≤ 5010 := hHT56.c _ _
    have w3072 : (Xi T56 950 ((1 : Int).toNat)) = Xi T56 950 1 := rfl
    have e486 : (Xi T56 950 ((1 : Int).toNat)) = Xi S 950 1 := by first | rfl | exact (hFT56.cx 950 rfl _).1
    have w3073 : 0 ≤ Xi T56 904 106 ∧ Xi T56 904 106 ≤ 9 := hHT56.c _ _
    refine l_callV rfl rfl rfl (t_mo_need hHT56 0 4 (Xi T56 950 ((1 : Int).toNat)) ⟨by omega, by omega⟩ ⟨by omega, by omega⟩ ⟨by omega, by omega⟩ _) ?_
    rintro _ T57 ⟨hHT57, w3109, rfl, w3106, w3107⟩
    have hFT57 : FR md_mo_asked S T57 := FR.tr hFT56 w3109 rfl
    show Rl _ _ _ _ _ [] _ _
    have w3110 : 0 ≤ Xi T57 904 106 ∧ Xi T57 904 106 ≤ 9 := hHT57.c _ _
    have w3111 : Xi T57 904 108 = Xi T56 904 108 := (show Xi T57 904 108 = Xi T56 904 108 from w3109.x _ _ rfl)
    have w3112 : 0 ≤ Xi T56 904 108 ∧ Xi T56 904 108 ≤ 2600 := hHT56.c _ _
    have w3113 : Xi T57 904 109 = Xi T55 904 109 := (show Xi T57 904 109 = Xi T56 904 109 from w3109.x _ _ rfl).trans ((show Xi T56 904 109 = Xi T55 904 109 from w3030.x _ _ rfl))
    have w3114 : Xi T57 904 115 = Xi T55 904 115 := (show Xi T57 904 115 = Xi T56 904 115 from w3109.x _ _ rfl).trans ((show Xi T56 904 115 = Xi T55 904 115 from w3030.x _ _ rfl))
    have w3116 : Xi T57 904 116 = Xi T55 904 116 := (show Xi T57 904 116 = Xi T56 904 116 from w3109.x _ _ rfl).trans ((show Xi T56 904 116 = Xi T55 904 116 from w3030.x _ _ rfl))
    have w3118 : Xi T57 904 117 = Xi T55 904 117 := (show Xi T57 904 117 = Xi T56 904 117 from w3109.x _ _ rfl).trans ((show Xi T56 904 117 = Xi T55 904 117 from w3030.x _ _ rfl))
    have w3120 : Xi T57 904 142 = Xi T55 904 142 := (show Xi T57 904 142 = Xi T56 904 142 from w3109.x _ _ rfl).trans ((show Xi T56 904 142 = Xi T55 904 142 from w3030.x _ _ rfl))
    have w3121 : 0 ≤ Xi T55 904 142 ∧ Xi T55 904 142 ≤ 4 := hHT55.c _ _
    have w3122 : Xi T57 904 60 = Xi T55 904 60 := (show Xi T57 904 60 = Xi T56 904 60 from w3109.x _ _ rfl).trans ((show Xi T56 904 60 = Xi T55 904 60 from w3030.x _ _ rfl))
    have w3124 : Xi T57 904 69 = Xi T55 904 69 := (show Xi T57 904 69 = Xi T56 904 69 from w3109.x _ _ rfl).trans ((show Xi T56 904 69 = Xi T55 904 69 from w3030.x _ _ rfl))
    have w3126 : Xi T57 904 70 = Xi T55 904 70 := (show Xi T57 904 70 = Xi T56 904 70 from w3109.x _ _ rfl).trans ((show Xi T56 904 70 = Xi T55 904 70 from w3030.x _ _ rfl))
    have w3128 : Xi T57 904 71 = Xi T55 904 71 := (show Xi T57 904 71 = Xi T56 904 71 from w3109.x _ _ rfl).trans ((show Xi T56 904 71 = Xi T55 904 71 from w3030.x _ _ rfl))
    have w3130 : Xi T57 904 72 = Xi T55 904 72 := (show Xi T57 904 72 = Xi T56 904 72 from w3109.x _ _ rfl).trans ((show Xi T56 904 72 = Xi T55 904 72 from w3030.x _ _ rfl))
    have w3132 : Xi T57 904 73 = Xi T55 904 73 := (show Xi T57 904 73 = Xi T56 904 73 from w3109.x _ _ rfl).trans ((show Xi T56 904 73 = Xi T55 904 73 from w3030.x _ _ rfl))
    have w3134 : Xi T57 904 74 = Xi T55 904 74 := (show Xi T57 904 74 = Xi T56 904 74 from w3109.x _ _ rfl).trans ((show Xi T56 904 74 = Xi T55 904 74 from w3030.x _ _ rfl))
    have w3136 : Xi T57 904 78 = Xi T55 904 78 := (show Xi T57 904 78 = Xi T56 904 78 from w3109.x _ _ rfl).trans ((show Xi T56 904 78 = Xi T55 904 78 from w3030.x _ _ rfl))
    have w3138 : Xi T57 904 81 = Xi T55 904 81 := (show Xi T57 904 81 = Xi T56 904 81 from w3109.x _ _ rfl).trans ((show Xi T56 904 81 = Xi T55 904 81 from w3030.x _ _ rfl))
    have w3140 : Xi T57 904 94 = Xi T55 904 94 := (show Xi T57 904 94 = Xi T56 904 94 from w3109.x _ _ rfl).trans ((show Xi T56 904 94 = Xi T55 904 94 from w3030.x _ _ rfl))
    have w3142 : Xi T57 904 98 = Xi T55 904 98 := (show Xi T57 904 98 = Xi T56 904 98 from w3109.x _ _ rfl).trans ((show Xi T56 904 98 = Xi T55 904 98 from w3030.x _ _ rfl))
    exact Rl_weak (C490 T57 hHT57 hFT57  (by omega) (by omega) (by omega) (by omega) (by omega) (by omega) (by omega) (by omega) (by omega) (by omega) (by omega) (by omega) (by first | assumption | exact fun k hk => absurd hk (by omega) | exact (NWV_FR w3109 rfl (by assumption : NWV T56))) (by first | assumption | exact (RDT_FR hHT56 w3109 rfl rfl rfl (RDT_FR hHT55 w3030 rfl rfl rfl (by assumption : RDT T55)))) (by omega) (by omega) (fun q => by omega) (fun q => G462 (by omega))) (And.intro rfl (True.intro))
  · refine l_iconst rfl ?_
    refine l_goto rfl rfl ?_
    refine l_iconst rfl ?_
    refine l_aload_n rfl rfl ?_
    refine l_gfr rfl rfl rfl rfl rfl (hHT56.r 904 67 950 rfl) ?_
    refine l_iconst rfl ?_
    refine l_iaload (n := 2600) rfl rfl (by omega) (by omega) (by unfold rg; omega) ?_
    have w3144 : 0 ≤ (Xi T56 950 ((1 : Int).toNat)) ∧ (Xi T56 950 ((1 : Int).toNat)) ≤ 5010 := hHT56.c _ _
    have w3145 : (Xi T56 950 ((1 : Int).toNat)) = Xi T56 950 1 := rfl
    have e486 : (Xi T56 950 ((1 : Int).toNat)) = Xi S 950 1 := by first | rfl | exact (hFT56.cx 950 rfl _).1
    have w3146 : 0 ≤ Xi T56 904 106 ∧ Xi T56 904 106 ≤ 9 := hHT56.c _ _
    refine l_callV rfl rfl rfl (t_mo_need hHT56 1 4 (Xi T56 950 ((1 : Int).toNat)) ⟨by omega, by omega⟩ ⟨by omega, by omega⟩ ⟨by omega, by omega⟩ _) ?_
    rintro _ T58 ⟨hHT58, w3182, rfl, w3179, w3180⟩
    have hFT58 : FR md_mo_asked S T58 := FR.tr hFT56 w3182 rfl
    show Rl _ _ _ _ _ [] _ _
    have w3183 : 0 ≤ Xi T58 904 106 ∧ Xi T58 904 106 ≤ 9 := hHT58.c _ _
    have w3184 : Xi T58 904 108 = Xi T56 904 108 := (show Xi T58 904 108 = Xi T56 904 108 from w3182.x _ _ rfl)
    have w3185 : 0 ≤ Xi T56 904 108 ∧ Xi T56 904 108 ≤ 2600 := hHT56.c _ _
    have w3186 : Xi T58 904 109 = Xi T55 904 109 := (show Xi T58 904 109 = Xi T56 904 109 from w3182.x _ _ rfl).trans ((show Xi T56 904 109 = Xi T55 904 109 from w3030.x _ _ rfl))
    have w3187 : Xi T58 904 115 = Xi T55 904 115 := (show Xi T58 904 115 = Xi T56 904 115 from w3182.x _ _ rfl).trans ((show Xi T56 904 115 = Xi T55 904 115 from w3030.x _ _ rfl))
    have w3189 : Xi T58 904 116 = Xi T55 904 116 := (show Xi T58 904 116 = Xi T56 904 116 from w3182.x _ _ rfl).trans ((show Xi T56 904 116 = Xi T55 904 116 from w3030.x _ _ rfl))
    have w3191 : Xi T58 904 117 = Xi T55 904 117 := (show Xi T58 904 117 = Xi T56 904 117 from w3182.x _ _ rfl).trans ((show Xi T56 904 117 = Xi T55 904 117 from w3030.x _ _ rfl))
    have w3193 : Xi T58 904 142 = Xi T55 904 142 := (show Xi T58 904 142 = Xi T56 904 142 from w3182.x _ _ rfl).trans ((show Xi T56 904 142 = Xi T55 904 142 from w3030.x _ _ rfl))
    have w3194 : 0 ≤ Xi T55 904 142 ∧ Xi T55 904 142 ≤ 4 := hHT55.c _ _
    have w3195 : Xi T58 904 60 = Xi T55 904 60 := (show Xi T58 904 60 = Xi T56 904 60 from w3182.x _ _ rfl).trans ((show Xi T56 904 60 = Xi T55 904 60 from w3030.x _ _ rfl))
    have w3197 : Xi T58 904 69 = Xi T55 904 69 := (show Xi T58 904 69 = Xi T56 904 69 from w3182.x _ _ rfl).trans ((show Xi T56 904 69 = Xi T55 904 69 from w3030.x _ _ rfl))
    have w3199 : Xi T58 904 70 = Xi T55 904 70 := (show Xi T58 904 70 = Xi T56 904 70 from w3182.x _ _ rfl).trans ((show Xi T56 904 70 = Xi T55 904 70 from w3030.x _ _ rfl))
    have w3201 : Xi T58 904 71 = Xi T55 904 71 := (show Xi T58 904 71 = Xi T56 904 71 from w3182.x _ _ rfl).trans ((show Xi T56 904 71 = Xi T55 904 71 from w3030.x _ _ rfl))
    have w3203 : Xi T58 904 72 = Xi T55 904 72 := (show Xi T58 904 72 = Xi T56 904 72 from w3182.x _ _ rfl).trans ((show Xi T56 904 72 = Xi T55 904 72 from w3030.x _ _ rfl))
    have w3205 : Xi T58 904 73 = Xi T55 904 73 := (show Xi T58 904 73 = Xi T56 904 73 from w3182.x _ _ rfl).trans ((show Xi T56 904 73 = Xi T55 904 73 from w3030.x _ _ rfl))
    have w3207 : Xi T58 904 74 = Xi T55 904 74 := (show Xi T58 904 74 = Xi T56 904 74 from w3182.x _ _ rfl).trans ((show Xi T56 904 74 = Xi T55 904 74 from w3030.x _ _ rfl))
    have w3209 : Xi T58 904 78 = Xi T55 904 78 := (show Xi T58 904 78 = Xi T56 904 78 from w3182.x _ _ rfl).trans ((show Xi T56 904 78 = Xi T55 904 78 from w3030.x _ _ rfl))
    have w3211 : Xi T58 904 81 = Xi T55 904 81 := (show Xi T58 904 81 = Xi T56 904 81 from w3182.x _ _ rfl).trans ((show Xi T56 904 81 = Xi T55 904 81 from w3030.x _ _ rfl))
    have w3213 : Xi T58 904 94 = Xi T55 904 94 := (show Xi T58 904 94 = Xi T56 904 94 from w3182.x _ _ rfl).trans ((show Xi T56 904 94 = Xi T55 904 94 from w3030.x _ _ rfl))
    have w3215 : Xi T58 904 98 = Xi T55 904 98 := (show Xi T58 904 98 = Xi T56 904 98 from w3182.x _ _ rfl).trans ((show Xi T56 904 98 = Xi T55 904 98 from w3030.x _ _ rfl))
    exact Rl_weak (C490 T58 hHT58 hFT58  (by omega) (by omega) (by omega) (by omega) (by omega) (by omega) (by omega) (by omega) (by omega) (by omega) (by omega) (by omega) (by first | assumption | exact fun k hk => absurd hk (by omega) | exact (NWV_FR w3182 rfl (by assumption : NWV T56))) (by first | assumption | exact (RDT_FR hHT56 w3182 rfl rfl rfl (RDT_FR hHT55 w3030 rfl rfl rfl (by assumption : RDT T55)))) (by omega) (by omega) (fun q => by omega) (fun q => G462 (by omega))) (And.intro rfl (True.intro))
set_option maxRecDepth 100000 in
set_option maxHeartbeats 8000000 in
theorem c518_mo_asked {S : sS} (hH : HI S) (n : Nat) (dd : Nat) (first : Int) (hfirst : 0 ≤ first ∧ first ≤ 5001) (hT : TK S n) (hv : RNV S n) (hM : LXM S) (hB : ABV S) (hC : DCM S) (hK : TXK S n) (hX : TXM S) (hq : SNQ S n) (hap : AP9 S n) (h94 : Xi S 904 94 ≤ 1668) (hRD : RDT S) (hPF : PF S) (hdt : Xi S 904 70 = 20 → first ≤ dd ∧ dd < n ∧ Xi S 907 dd = 46) (d : Nat) : ∀  (T59 : sS) (_ : HI T59) (_ : FR md_mo_asked S T59), (Xi T59 904 117 = Xi S 904 117) → (Xi T59 904 69 = Xi S 904 69) → (Xi T59 904 70 = Xi S 904 70) → (Xi T59 904 71 = Xi S 904 71) → (Xi T59 904 72 = Xi S 904 72) → (Xi T59 904 73 = Xi S 904 73) → (Xi T59 904 74 = Xi S 904 74) → (Xi T59 904 78 = Xi S 904 78) → (Xi T59 904 81 = Xi S 904 81) → (Xi T59 904 94 = Xi S 904 94) → (Xi T59 904 98 = Xi S 904 98) → (Xi T59 904 60 = Xi S 904 60) → (Xi T59 904 106 = 0) → (Xi T59 904 108 = 0) → (Xi T59 904 115 = -1) → (Xi T59 904 116 = -1) → (SNQ T59 n) → (RDT T59) → (KQL T59 S (Xi S 904 117)) → (Xi S 904 70 = 20) → Rl lay0 (d + 12) m_mo_asked 518 [(0, .ref 904), (1, iv first)] [] T59 (Q_mo_asked S n dd first) := by
  have hF : FR md_mo_asked S S := FR.rf
  have w1 : 0 ≤ Xi S 904 106 ∧ Xi S 904 106 ≤ 9 := hH.c _ _
  have w2 : 0 ≤ Xi S 904 108 ∧ Xi S 904 108 ≤ 2600 := hH.c _ _
  have w3 : -1 ≤ Xi S 904 115 ∧ Xi S 904 115 ≤ 15 := hH.c _ _
  have w4 : -1 ≤ Xi S 904 116 ∧ Xi S 904 116 ≤ 15 := hH.c _ _
  have w5 : 0 ≤ Xi S 904 117 ∧ Xi S 904 117 ≤ 480 := hH.c _ _
  have w6 : 0 ≤ Xi S 904 23 ∧ Xi S 904 23 ≤ 24 := hH.c _ _
  have w7 : 0 ≤ Xi S 904 41 ∧ Xi S 904 41 ≤ 6 := hH.c _ _
  have w8 : -1 ≤ Xi S 904 60 ∧ Xi S 904 60 ≤ 23 := hH.c _ _
  have w9 : 0 ≤ Xi S 904 69 ∧ Xi S 904 69 ≤ 2600 := hH.c _ _
  have w10 : 0 ≤ Xi S 904 70 ∧ Xi S 904 70 ≤ 20 := hH.c _ _
  have w11 : 0 ≤ Xi S 904 71 ∧ Xi S 904 71 ≤ 2600 := hH.c _ _
  have w12 : 0 ≤ Xi S 904 72 ∧ Xi S 904 72 ≤ 2600 := hH.c _ _
  have w13 : 0 ≤ Xi S 904 73 ∧ Xi S 904 73 ≤ 5 := hH.c _ _
  have w14 : 0 ≤ Xi S 904 74 ∧ Xi S 904 74 ≤ 2600 := hH.c _ _
  have w15 : -2 ≤ Xi S 904 78 ∧ Xi S 904 78 ≤ 5010 := hH.c _ _
  have w16 : 0 ≤ Xi S 904 81 ∧ Xi S 904 81 ≤ 5010 := hH.c _ _
  have w17 : 0 ≤ Xi S 904 94 ∧ Xi S 904 94 ≤ 1700 := hH.c _ _
  have w18 : 0 ≤ Xi S 904 98 ∧ Xi S 904 98 ≤ 1700 := hH.c _ _
  have w19 : 0 ≤ Xi S 951 0 ∧ Xi S 951 0 ≤ 5010 := hH.c _ _
  have w20 : 0 ≤ Xi S 951 1 ∧ Xi S 951 1 ≤ 5010 := hH.c _ _
  have hn5 := hT.1
  have hc69 : 0 ≤ Xi S 904 69 ∧ Xi S 904 69 ≤ 2600 := hH.c _ _
  have hc70 : 0 ≤ Xi S 904 70 ∧ Xi S 904 70 ≤ 20 := hH.c _ _
  have hc23 : 0 ≤ Xi S 904 23 ∧ Xi S 904 23 ≤ 24 := hH.c _ _
  have hrf : ∀ r : Int, 0 ≤ r → r < Xi S 904 69 → Xi S 950 r.toNat + Xi S 951 r.toNat ≤ n ∧ 1 ≤ Xi S 951 r.toNat := fun r a b => hv r.toNat (by omega)
  have hq0 : KQL S S (Xi S 904 117) := KQL.rf
  intro T59 hHT59 hFT59 w3217 w3218 w3219 w3220 w3221 w3222 w3223 w3224 w3225 w3226 w3227 w3228 w3229 w3230 w3231 w3232 q20 r20 K20 w3233
  have w3234 : Xi T59 904 102 = Xi S 904 102 := hFT59.x _ _ rfl
  have w3235 : Xi T59 904 103 = Xi S 904 103 := hFT59.x _ _ rfl
  have w3236 : Xi T59 904 16 = Xi S 904 16 := hFT59.x _ _ rfl
  have w3237 : Xi T59 904 18 = Xi S 904 18 := hFT59.x _ _ rfl
  have w3238 : Xi T59 904 19 = Xi S 904 19 := hFT59.x _ _ rfl
  have w3239 : Xi T59 904 23 = Xi S 904 23 := hFT59.x _ _ rfl
  have w3240 : Xi T59 904 30 = Xi S 904 30 := hFT59.x _ _ rfl
  have w3241 : Xi T59 904 41 = Xi S 904 41 := hFT59.x _ _ rfl
  have w3242 : Xi T59 904 47 = Xi S 904 47 := hFT59.x _ _ rfl
  have w3243 : Xi T59 904 49 = Xi S 904 49 := hFT59.x _ _ rfl
  have w3244 : Xi T59 904 55 = Xi S 904 55 := hFT59.x _ _ rfl
  have w3245 : Xi T59 904 60 = Xi S 904 60 := hFT59.x _ _ rfl
  have w3246 : Xi T59 904 69 = Xi S 904 69 := hFT59.x _ _ rfl
  have w3247 : Xi T59 904 70 = Xi S 904 70 := hFT59.x _ _ rfl
  have w3248 : Xi T59 904 71 = Xi S 904 71 := hFT59.x _ _ rfl
  have w3249 : Xi T59 904 72 = Xi S 904 72 := hFT59.x _ _ rfl
  have w3250 : Xi T59 904 73 = Xi S 904 73 := hFT59.x _ _ rfl
  have w3251 : Xi T59 904 74 = Xi S 904 74 := hFT59.x _ _ rfl
  have w3252 : Xi T59 904 78 = Xi S 904 78 := hFT59.x _ _ rfl
  have w3253 : Xi T59 904 81 = Xi S 904 81 := hFT59.x _ _ rfl
  have w3254 : Xi T59 904 94 = Xi S 904 94 := hFT59.x _ _ rfl
  have w3255 : Xi T59 904 98 = Xi S 904 98 := hFT59.x _ _ rfl
  have w3256 : Xi T59 951 0 = Xi S 951 0 := hFT59.x _ _ rfl
  have w3257 : Xi T59 951 1 = Xi S 951 1 := hFT59.x _ _ rfl
  have w3258 : 0 ≤ Xi T59 904 106 ∧ Xi T59 904 106 ≤ 9 := hHT59.c _ _
  have w3259 : 0 ≤ Xi T59 904 108 ∧ Xi T59 904 108 ≤ 2600 := hHT59.c _ _
  have w3260 : -1 ≤ Xi T59 904 115 ∧ Xi T59 904 115 ≤ 15 := hHT59.c _ _
  have w3261 : -1 ≤ Xi T59 904 116 ∧ Xi T59 904 116 ≤ 15 := hHT59.c _ _
  have w3262 : 0 ≤ Xi T59 904 117 ∧ Xi T59 904 117 ≤ 480 := hHT59.c _ _
  have w3263 : -1 ≤ Xi T59 904 60 ∧ Xi T59 904 60 ≤ 23 := hHT59.c _ _
  have w3264 : 0 ≤ Xi T59 904 69 ∧ Xi T59 904 69 ≤ 2600 := hHT59.c _ _
  have w3265 : 0 ≤ Xi T59 904 70 ∧ Xi T59 904 70 ≤ 20 := hHT59.c _ _
  have w3266 : 0 ≤ Xi T59 904 71 ∧ Xi T59 904 71 ≤ 2600 := hHT59.c _ _
  have w3267 : 0 ≤ Xi T59 904 72 ∧ Xi T59 904 72 ≤ 2600 := hHT59.c _ _
  have w3268 : 0 ≤ Xi T59 904 73 ∧ Xi T59 904 73 ≤ 5 := hHT59.c _ _
  have w3269 : 0 ≤ Xi T59 904 74 ∧ Xi T59 904 74 ≤ 2600 := hHT59.c _ _
  have w3270 : -2 ≤ Xi T59 904 78 ∧ Xi T59 904 78 ≤ 5010 := hHT59.c _ _
  have w3271 : 0 ≤ Xi T59 904 81 ∧ Xi T59 904 81 ≤ 5010 := hHT59.c _ _
  have w3272 : 0 ≤ Xi T59 904 94 ∧ Xi T59 904 94 ≤ 1700 := hHT59.c _ _
  have w3273 : 0 ≤ Xi T59 904 98 ∧ Xi T59 904 98 ≤ 1700 := hHT59.c _ _
  refine l_aload_n rfl rfl ?_
  have s518 := hdt (by omega)
  refine l_iload_n rfl rfl ?_
  have w3279 : 0 ≤ Xi T59 904 142 ∧ Xi T59 904 142 ≤ 4 := hHT59.c _ _
  refine l_callV rfl rfl rfl (t_mo_askSaying hHT59 n dd first ⟨by omega, by omega⟩ (by first | assumption | exact (TK_FR hFT59 rfl (by assumption : TK S _))) (by first | assumption | exact (LXM_FR hFT59 rfl (by assumption : LXM S))) (by first | assumption | exact (ABV_FR hFT59 rfl (by assumption : ABV S))) (by rw [(hFT59.cx 907 rfl _).1]; exact s518) _) ?_
  rintro _ T60 ⟨hHT60, w3293, rfl, w3291⟩
  have hFT60 : FR md_mo_asked S T60 := FR.tr hFT59 w3293 rfl
  show Rl _ _ _ _ _ [] _ _
  have y520_69 : Xi T60 904 69 = Xi T59 904 69 := ((show Xi T60 904 69 = Xi T59 904 69 from w3293.x _ _ rfl))
  have y520_70 : Xi T60 904 70 = Xi T59 904 70 := ((show Xi T60 904 70 = Xi T59 904 70 from w3293.x _ _ rfl))
  have y520_71 : Xi T60 904 71 = Xi T59 904 71 := ((show Xi T60 904 71 = Xi T59 904 71 from w3293.x _ _ rfl))
  have y520_72 : Xi T60 904 72 = Xi T59 904 72 := ((show Xi T60 904 72 = Xi T59 904 72 from w3293.x _ _ rfl))
  have y520_73 : Xi T60 904 73 = Xi T59 904 73 := ((show Xi T60 904 73 = Xi T59 904 73 from w3293.x _ _ rfl))
  have y520_74 : Xi T60 904 74 = Xi T59 904 74 := ((show Xi T60 904 74 = Xi T59 904 74 from w3293.x _ _ rfl))
  have y520_78 : Xi T60 904 78 = Xi T59 904 78 := ((show Xi T60 904 78 = Xi T59 904 78 from w3293.x _ _ rfl))
  have y520_81 : Xi T60 904 81 = Xi T59 904 81 := ((show Xi T60 904 81 = Xi T59 904 81 from w3293.x _ _ rfl))
  have y520_94 : Xi T60 904 94 = Xi T59 904 94 := ((show Xi T60 904 94 = Xi T59 904 94 from w3293.x _ _ rfl))
  have y520_98 : Xi T60 904 98 = Xi T59 904 98 := ((show Xi T60 904 98 = Xi T59 904 98 from w3293.x _ _ rfl))
  have y520_60 : Xi T60 904 60 = Xi T59 904 60 := ((show Xi T60 904 60 = Xi T59 904 60 from w3293.x _ _ rfl))
  have y520_117 : Xi T60 904 117 = Xi T59 904 117 := ((show Xi T60 904 117 = Xi T59 904 117 from w3293.x _ _ rfl))
  have F520 : Xi T60 904 106 = 0 → DOK T60 := fun q => dok_3 (by omega)
  refine l_goto rfl rfl ?_
  refine l_return rfl rfl ?_
  have w3294 : 0 ≤ Xi T60 904 106 ∧ Xi T60 904 106 ≤ 9 := hHT60.c _ _
  exact ⟨hHT60, hFT60, rfl, (by assumption), (by first | exact fun q => by assumption | assumption | exact fun q => (RDT_FR hHT59 w3293 rfl rfl rfl (by assumption : RDT T59)))⟩
set_option maxRecDepth 100000 in
set_option maxHeartbeats 8000000 in
theorem c20_mo_asked {S : sS} (hH : HI S) (n : Nat) (dd : Nat) (first : Int) (hfirst : 0 ≤ first ∧ first ≤ 5001) (hT : TK S n) (hv : RNV S n) (hM : LXM S) (hB : ABV S) (hC : DCM S) (hK : TXK S n) (hX : TXM S) (hq : SNQ S n) (hap : AP9 S n) (h94 : Xi S 904 94 ≤ 1668) (hRD : RDT S) (hPF : PF S) (hdt : Xi S 904 70 = 20 → first ≤ dd ∧ dd < n ∧ Xi S 907 dd = 46) (d : Nat) : ∀  (T61 : sS) (_ : HI T61) (_ : FR md_mo_asked S T61), (Xi T61 904 117 = Xi S 904 117) → (Xi T61 904 69 = Xi S 904 69) → (Xi T61 904 70 = Xi S 904 70) → (Xi T61 904 71 = Xi S 904 71) → (Xi T61 904 72 = Xi S 904 72) → (Xi T61 904 73 = Xi S 904 73) → (Xi T61 904 74 = Xi S 904 74) → (Xi T61 904 78 = Xi S 904 78) → (Xi T61 904 81 = Xi S 904 81) → (Xi T61 904 94 = Xi S 904 94) → (Xi T61 904 98 = Xi S 904 98) → (Xi T61 904 60 = Xi S 904 60) → (Xi T61 904 106 = 0) → (Xi T61 904 108 = 0) → (Xi T61 904 115 = -1) → (Xi T61 904 116 = -1) → (SNQ T61 n) → (RDT T61) → (KQL T61 S (Xi S 904 117)) → Rl lay0 (d + 12) m_mo_asked 20 [(0, .ref 904), (1, iv first)] [] T61 (Q_mo_asked S n dd first) := by
  have C526 := c526_mo_asked hH n dd first hfirst hT hv hM hB hC hK hX hq hap h94 hRD hPF hdt d 
  have C124 := c124_mo_asked hH n dd first hfirst hT hv hM hB hC hK hX hq hap h94 hRD hPF hdt d 
  have C149 := c149_mo_asked hH n dd first hfirst hT hv hM hB hC hK hX hq hap h94 hRD hPF hdt d 
  have C156 := c156_mo_asked hH n dd first hfirst hT hv hM hB hC hK hX hq hap h94 hRD hPF hdt d 
  have C183 := c183_mo_asked hH n dd first hfirst hT hv hM hB hC hK hX hq hap h94 hRD hPF hdt d 
  have C190 := c190_mo_asked hH n dd first hfirst hT hv hM hB hC hK hX hq hap h94 hRD hPF hdt d 
  have C234 := c234_mo_asked hH n dd first hfirst hT hv hM hB hC hK hX hq hap h94 hRD hPF hdt d 
  have C241 := c241_mo_asked hH n dd first hfirst hT hv hM hB hC hK hX hq hap h94 hRD hPF hdt d 
  have C248 := c248_mo_asked hH n dd first hfirst hT hv hM hB hC hK hX hq hap h94 hRD hPF hdt d 
  have C302 := c302_mo_asked hH n dd first hfirst hT hv hM hB hC hK hX hq hap h94 hRD hPF hdt d 
  have C313 := c313_mo_asked hH n dd first hfirst hT hv hM hB hC hK hX hq hap h94 hRD hPF hdt d 
  have C320 := c320_mo_asked hH n dd first hfirst hT hv hM hB hC hK hX hq hap h94 hRD hPF hdt d 
  have C327 := c327_mo_asked hH n dd first hfirst hT hv hM hB hC hK hX hq hap h94 hRD hPF hdt d 
  have C410 := c410_mo_asked hH n dd first hfirst hT hv hM hB hC hK hX hq hap h94 hRD hPF hdt d 
  have C454 := c454_mo_asked hH n dd first hfirst hT hv hM hB hC hK hX hq hap h94 hRD hPF hdt d 
  have C518 := c518_mo_asked hH n dd first hfirst hT hv hM hB hC hK hX hq hap h94 hRD hPF hdt d 
  have hF : FR md_mo_asked S S := FR.rf
  have w1 : 0 ≤ Xi S 904 106 ∧ Xi S 904 106 ≤ 9 := hH.c _ _
  have w2 : 0 ≤ Xi S 904 108 ∧ Xi S 904 108 ≤ 2600 := hH.c _ _
  have w3 : -1 ≤ Xi S 904 115 ∧ Xi S 904 115 ≤ 15 := hH.c _ _
  have w4 : -1 ≤ Xi S 904 116 ∧ Xi S 904 116 ≤ 15 := hH.c _ _
  have w5 : 0 ≤ Xi S 904 117 ∧ Xi S 904 117 ≤ 480 := hH.c _ _
  have w6 : 0 ≤ Xi S 904 23 ∧ Xi S 904 23 ≤ 24 := hH.c _ _
  have w7 : 0 ≤ Xi S 904 41 ∧ Xi S 904 41 ≤ 6 := hH.c _ _
  have w8 : -1 ≤ Xi S 904 60 ∧ Xi S 904 60 ≤ 23 := hH.c _ _
  have w9 : 0 ≤ Xi S 904 69 ∧ Xi S 904 69 ≤ 2600 := hH.c _ _
  have w10 : 0 ≤ Xi S 904 70 ∧ Xi S 904 70 ≤ 20 := hH.c _ _
  have w11 : 0 ≤ Xi S 904 71 ∧ Xi S 904 71 ≤ 2600 := hH.c _ _
  have w12 : 0 ≤ Xi S 904 72 ∧ Xi S 904 72 ≤ 2600 := hH.c _ _
  have w13 : 0 ≤ Xi S 904 73 ∧ Xi S 904 73 ≤ 5 := hH.c _ _
  have w14 : 0 ≤ Xi S 904 74 ∧ Xi S 904 74 ≤ 2600 := hH.c _ _
  have w15 : -2 ≤ Xi S 904 78 ∧ Xi S 904 78 ≤ 5010 := hH.c _ _
  have w16 : 0 ≤ Xi S 904 81 ∧ Xi S 904 81 ≤ 5010 := hH.c _ _
  have w17 : 0 ≤ Xi S 904 94 ∧ Xi S 904 94 ≤ 1700 := hH.c _ _
  have w18 : 0 ≤ Xi S 904 98 ∧ Xi S 904 98 ≤ 1700 := hH.c _ _
  have w19 : 0 ≤ Xi S 951 0 ∧ Xi S 951 0 ≤ 5010 := hH.c _ _
  have w20 : 0 ≤ Xi S 951 1 ∧ Xi S 951 1 ≤ 5010 := hH.c _ _
  have hn5 := hT.1
  have hc69 : 0 ≤ Xi S 904 69 ∧ Xi S 904 69 ≤ 2600 := hH.c _ _
  have hc70 : 0 ≤ Xi S 904 70 ∧ Xi S 904 70 ≤ 20 := hH.c _ _
  have hc23 : 0 ≤ Xi S 904 23 ∧ Xi S 904 23 ≤ 24 := hH.c _ _
  have hrf : ∀ r : Int, 0 ≤ r → r < Xi S 904 69 → Xi S 950 r.toNat + Xi S 951 r.toNat ≤ n ∧ 1 ≤ Xi S 951 r.toNat := fun r a b => hv r.toNat (by omega)
  have hq0 : KQL S S (Xi S 904 117) := KQL.rf
  intro T61 hHT61 hFT61 w3328 w3329 w3330 w3331 w3332 w3333 w3334 w3335 w3336 w3337 w3338 w3339 w3340 w3341 w3342 w3343 q20 r20 K20
  have w3344 : Xi T61 904 102 = Xi S 904 102 := hFT61.x _ _ rfl
  have w3345 : Xi T61 904 103 = Xi S 904 103 := hFT61.x _ _ rfl
  have w3346 : Xi T61 904 16 = Xi S 904 16 := hFT61.x _ _ rfl
  have w3347 : Xi T61 904 18 = Xi S 904 18 := hFT61.x _ _ rfl
  have w3348 : Xi T61 904 19 = Xi S 904 19 := hFT61.x _ _ rfl
  have w3349 : Xi T61 904 23 = Xi S 904 23 := hFT61.x _ _ rfl
  have w3350 : Xi T61 904 30 = Xi S 904 30 := hFT61.x _ _ rfl
  have w3351 : Xi T61 904 41 = Xi S 904 41 := hFT61.x _ _ rfl
  have w3352 : Xi T61 904 47 = Xi S 904 47 := hFT61.x _ _ rfl
  have w3353 : Xi T61 904 49 = Xi S 904 49 := hFT61.x _ _ rfl
  have w3354 : Xi T61 904 55 = Xi S 904 55 := hFT61.x _ _ rfl
  have w3355 : Xi T61 904 60 = Xi S 904 60 := hFT61.x _ _ rfl
  have w3356 : Xi T61 904 69 = Xi S 904 69 := hFT61.x _ _ rfl
  have w3357 : Xi T61 904 70 = Xi S 904 70 := hFT61.x _ _ rfl
  have w3358 : Xi T61 904 71 = Xi S 904 71 := hFT61.x _ _ rfl
  have w3359 : Xi T61 904 72 = Xi S 904 72 := hFT61.x _ _ rfl
  have w3360 : Xi T61 904 73 = Xi S 904 73 := hFT61.x _ _ rfl
  have w3361 : Xi T61 904 74 = Xi S 904 74 := hFT61.x _ _ rfl
  have w3362 : Xi T61 904 78 = Xi S 904 78 := hFT61.x _ _ rfl
  have w3363 : Xi T61 904 81 = Xi S 904 81 := hFT61.x _ _ rfl
  have w3364 : Xi T61 904 94 = Xi S 904 94 := hFT61.x _ _ rfl
  have w3365 : Xi T61 904 98 = Xi S 904 98 := hFT61.x _ _ rfl
  have w3366 : Xi T61 951 0 = Xi S 951 0 := hFT61.x _ _ rfl
  have w3367 : Xi T61 951 1 = Xi S 951 1 := hFT61.x _ _ rfl
  have w3368 : 0 ≤ Xi T61 904 106 ∧ Xi T61 904 106 ≤ 9 := hHT61.c _ _
  have w3369 : 0 ≤ Xi T61 904 108 ∧ Xi T61 904 108 ≤ 2600 := hHT61.c _ _
  have w3370 : -1 ≤ Xi T61 904 115 ∧ Xi T61 904 115 ≤ 15 := hHT61.c _ _
  have w3371 : -1 ≤ Xi T61 904 116 ∧ Xi T61 904 116 ≤ 15 := hHT61.c _ _
  have w3372 : 0 ≤ Xi T61 904 117 ∧ Xi T61 904 117 ≤ 480 := hHT61.c _ _
  have w3373 : -1 ≤ Xi T61 904 60 ∧ Xi T61 904 60 ≤ 23 := hHT61.c _ _
  have w3374 : 0 ≤ Xi T61 904 69 ∧ Xi T61 904 69 ≤ 2600 := hHT61.c _ _
  have w3375 : 0 ≤ Xi T61 904 70 ∧ Xi T61 904 70 ≤ 20 := hHT61.c _ _
  have w3376 : 0 ≤ Xi T61 904 71 ∧ Xi T61 904 71 ≤ 2600 := hHT61.c _ _
  have w3377 : 0 ≤ Xi T61 904 72 ∧ Xi T61 904 72 ≤ 2600 := hHT61.c _ _
  have w3378 : 0 ≤ Xi T61 904 73 ∧ Xi T61 904 73 ≤ 5 := hHT61.c _ _
  have w3379 : 0 ≤ Xi T61 904 74 ∧ Xi T61 904 74 ≤ 2600 := hHT61.c _ _
  have w3380 : -2 ≤ Xi T61 904 78 ∧ Xi T61 904 78 ≤ 5010 := hHT61.c _ _
  have w3381 : 0 ≤ Xi T61 904 81 ∧ Xi T61 904 81 ≤ 5010 := hHT61.c _ _
  have w3382 : 0 ≤ Xi T61 904 94 ∧ Xi T61 904 94 ≤ 1700 := hHT61.c _ _
  have w3383 : 0 ≤ Xi T61 904 98 ∧ Xi T61 904 98 ≤ 1700 := hHT61.c _ _
  refine l_aload_n rfl rfl ?_
  refine l_gfi rfl rfl rfl rfl rfl ?_
  refine l_tsw rfl rfl rfl rfl (by unfold rg; omega) (fun w3384 => ?_) (fun ii tt hii w3384 => ?_)
  · have w3385 : 0 ≤ Xi T61 904 106 ∧ Xi T61 904 106 ≤ 9 := hHT61.c _ _
    have w3390 : 0 ≤ Xi T61 904 142 ∧ Xi T61 904 142 ≤ 4 := hHT61.c _ _
    exact Rl_weak (C526 T61 hHT61 hFT61  (by omega) (by omega) (by omega) (by omega) (by omega) (by omega) (by omega) (by omega) (by omega) (by omega) (by omega) (by omega) (by first | assumption | exact fun k hk => absurd hk (by omega) | exact (by assumption : NWV T61)) (r20) (by omega) (q20)) (And.intro rfl (And.intro rfl (True.intro)))
  · match ii, hii with
    | 0, hii =>
      cases hii
      have w3402 : (Xi T61 904 70) = 0 := by simpa using w3384
      have w3408 : 0 ≤ Xi T61 904 142 ∧ Xi T61 904 142 ≤ 4 := hHT61.c _ _
      exact Rl_weak (C124 T61 hHT61 hFT61  (by omega) (by omega) (by omega) (by omega) (by omega) (by omega) (by omega) (by omega) (by omega) (by omega) (by omega) (by omega) (by omega) (by omega) (by omega) (by omega) (q20) (r20) (K20) (by omega)) (And.intro rfl (True.intro))
    | 1, hii =>
      cases hii
      have w3420 : (Xi T61 904 70) = 1 := by simpa using w3384
      have w3426 : 0 ≤ Xi T61 904 142 ∧ Xi T61 904 142 ≤ 4 := hHT61.c _ _
      exact Rl_weak (C149 T61 hHT61 hFT61  (by omega) (by omega) (by omega) (by omega) (by omega) (by omega) (by omega) (by omega) (by omega) (by omega) (by omega) (by omega) (by omega) (by omega) (by omega) (by omega) (q20) (r20) (K20) (by omega)) (And.intro rfl (True.intro))
    | 2, hii =>
      cases hii
      have w3438 : (Xi T61 904 70) = 2 := by simpa using w3384
      have w3444 : 0 ≤ Xi T61 904 142 ∧ Xi T61 904 142 ≤ 4 := hHT61.c _ _
      exact Rl_weak (C156 T61 hHT61 hFT61  (by omega) (by omega) (by omega) (by omega) (by omega) (by omega) (by omega) (by omega) (by omega) (by omega) (by omega) (by omega) (by omega) (by omega) (by omega) (by omega) (q20) (r20) (K20) (by omega)) (And.intro rfl (True.intro))
    | 3, hii =>
      cases hii
      have w3456 : (Xi T61 904 70) = 3 := by simpa using w3384
      have w3462 : 0 ≤ Xi T61 904 142 ∧ Xi T61 904 142 ≤ 4 := hHT61.c _ _
      exact Rl_weak (C526 T61 hHT61 hFT61  (by omega) (by omega) (by omega) (by omega) (by omega) (by omega) (by omega) (by omega) (by omega) (by omega) (by omega) (by omega) (by first | assumption | exact fun k hk => absurd hk (by omega) | exact (by assumption : NWV T61)) (r20) (by omega) (q20)) (And.intro rfl (And.intro rfl (True.intro)))
    | 4, hii =>
      cases hii
      have w3474 : (Xi T61 904 70) = 4 := by simpa using w3384
      have w3480 : 0 ≤ Xi T61 904 142 ∧ Xi T61 904 142 ≤ 4 := hHT61.c _ _
      exact Rl_weak (C526 T61 hHT61 hFT61  (by omega) (by omega) (by omega) (by omega) (by omega) (by omega) (by omega) (by omega) (by omega) (by omega) (by omega) (by omega) (by first | assumption | exact fun k hk => absurd hk (by omega) | exact (by assumption : NWV T61)) (r20) (by omega) (q20)) (And.intro rfl (And.intro rfl (True.intro)))
    | 5, hii =>
      cases hii
      have w3492 : (Xi T61 904 70) = 5 := by simpa using w3384
      have w3498 : 0 ≤ Xi T61 904 142 ∧ Xi T61 904 142 ≤ 4 := hHT61.c _ _
      exact Rl_weak (C526 T61 hHT61 hFT61  (by omega) (by omega) (by omega) (by omega) (by omega) (by omega) (by omega) (by omega) (by omega) (by omega) (by omega) (by omega) (by first | assumption | exact fun k hk => absurd hk (by omega) | exact (by assumption : NWV T61)) (r20) (by omega) (q20)) (And.intro rfl (And.intro rfl (True.intro)))
    | 6, hii =>
      cases hii
      have w3510 : (Xi T61 904 70) = 6 := by simpa using w3384
      have w3516 : 0 ≤ Xi T61 904 142 ∧ Xi T61 904 142 ≤ 4 := hHT61.c _ _
      exact Rl_weak (C526 T61 hHT61 hFT61  (by omega) (by omega) (by omega) (by omega) (by omega) (by omega) (by omega) (by omega) (by omega) (by omega) (by omega) (by omega) (by first | assumption | exact fun k hk => absurd hk (by omega) | exact (by assumption : NWV T61)) (r20) (by omega) (q20)) (And.intro rfl (And.intro rfl (True.intro)))
    | 7, hii =>
      cases hii
      have w3528 : (Xi T61 904 70) = 7 := by simpa using w3384
      have w3534 : 0 ≤ Xi T61 904 142 ∧ Xi T61 904 142 ≤ 4 := hHT61.c _ _
      exact Rl_weak (C183 T61 hHT61 hFT61  (by omega) (by omega) (by omega) (by omega) (by omega) (by omega) (by omega) (by omega) (by omega) (by omega) (by omega) (by omega) (by omega) (by omega) (by omega) (by omega) (q20) (r20) (K20) (by omega)) (And.intro rfl (True.intro))
    | 8, hii =>
      cases hii
      have w3546 : (Xi T61 904 70) = 8 := by simpa using w3384
      have w3552 : 0 ≤ Xi T61 904 142 ∧ Xi T61 904 142 ≤ 4 := hHT61.c _ _
      exact Rl_weak (C190 T61 hHT61 hFT61  (by omega) (by omega) (by omega) (by omega) (by omega) (by omega) (by omega) (by omega) (by omega) (by omega) (by omega) (by omega) (by omega) (by omega) (by omega) (by omega) (q20) (r20) (K20) (by omega)) (And.intro rfl (True.intro))
    | 9, hii =>
      cases hii
      have w3564 : (Xi T61 904 70) = 9 := by simpa using w3384
      have w3570 : 0 ≤ Xi T61 904 142 ∧ Xi T61 904 142 ≤ 4 := hHT61.c _ _
      exact Rl_weak (C234 T61 hHT61 hFT61  (by omega) (by omega) (by omega) (by omega) (by omega) (by omega) (by omega) (by omega) (by omega) (by omega) (by omega) (by omega) (by omega) (by omega) (by omega) (by omega) (q20) (r20) (K20) (by omega)) (And.intro rfl (True.intro))
    | 10, hii =>
      cases hii
      have w3582 : (Xi T61 904 70) = 10 := by simpa using w3384
      have w3588 : 0 ≤ Xi T61 904 142 ∧ Xi T61 904 142 ≤ 4 := hHT61.c _ _
      exact Rl_weak (C241 T61 hHT61 hFT61  (by omega) (by omega) (by omega) (by omega) (by omega) (by omega) (by omega) (by omega) (by omega) (by omega) (by omega) (by omega) (by omega) (by omega) (by omega) (by omega) (q20) (r20) (K20) (by omega)) (And.intro rfl (True.intro))
    | 11, hii =>
      cases hii
      have w3600 : (Xi T61 904 70) = 11 := by simpa using w3384
      have w3606 : 0 ≤ Xi T61 904 142 ∧ Xi T61 904 142 ≤ 4 := hHT61.c _ _
      exact Rl_weak (C241 T61 hHT61 hFT61  (by omega) (by omega) (by omega) (by omega) (by omega) (by omega) (by omega) (by omega) (by omega) (by omega) (by omega) (by omega) (by omega) (by omega) (by omega) (by omega) (q20) (r20) (K20) (by omega)) (And.intro rfl (True.intro))
    | 12, hii =>
      cases hii
      have w3618 : (Xi T61 904 70) = 12 := by simpa using w3384
      have w3624 : 0 ≤ Xi T61 904 142 ∧ Xi T61 904 142 ≤ 4 := hHT61.c _ _
      exact Rl_weak (C248 T61 hHT61 hFT61  (by omega) (by omega) (by omega) (by omega) (by omega) (by omega) (by omega) (by omega) (by omega) (by omega) (by omega) (by omega) (by omega) (by omega) (by omega) (by omega) (q20) (r20) (K20) (by omega)) (And.intro rfl (True.intro))
    | 13, hii =>
      cases hii
      have w3636 : (Xi T61 904 70) = 13 := by simpa using w3384
      have w3642 : 0 ≤ Xi T61 904 142 ∧ Xi T61 904 142 ≤ 4 := hHT61.c _ _
      exact Rl_weak (C302 T61 hHT61 hFT61  (by omega) (by omega) (by omega) (by omega) (by omega) (by omega) (by omega) (by omega) (by omega) (by omega) (by omega) (by omega) (by omega) (by omega) (by omega) (by omega) (q20) (r20) (K20) (by omega)) (And.intro rfl (True.intro))
    | 14, hii =>
      cases hii
      have w3654 : (Xi T61 904 70) = 14 := by simpa using w3384
      have w3660 : 0 ≤ Xi T61 904 142 ∧ Xi T61 904 142 ≤ 4 := hHT61.c _ _
      exact Rl_weak (C313 T61 hHT61 hFT61  (by omega) (by omega) (by omega) (by omega) (by omega) (by omega) (by omega) (by omega) (by omega) (by omega) (by omega) (by omega) (by omega) (by omega) (by omega) (by omega) (q20) (r20) (K20) (by omega)) (And.intro rfl (True.intro))
    | 15, hii =>
      cases hii
      have w3672 : (Xi T61 904 70) = 15 := by simpa using w3384
      have w3678 : 0 ≤ Xi T61 904 142 ∧ Xi T61 904 142 ≤ 4 := hHT61.c _ _
      exact Rl_weak (C320 T61 hHT61 hFT61  (by omega) (by omega) (by omega) (by omega) (by omega) (by omega) (by omega) (by omega) (by omega) (by omega) (by omega) (by omega) (by omega) (by omega) (by omega) (by omega) (q20) (r20) (K20) (by omega)) (And.intro rfl (True.intro))
    | 16, hii =>
      cases hii
      have w3690 : (Xi T61 904 70) = 16 := by simpa using w3384
      have w3696 : 0 ≤ Xi T61 904 142 ∧ Xi T61 904 142 ≤ 4 := hHT61.c _ _
      exact Rl_weak (C320 T61 hHT61 hFT61  (by omega) (by omega) (by omega) (by omega) (by omega) (by omega) (by omega) (by omega) (by omega) (by omega) (by omega) (by omega) (by omega) (by omega) (by omega) (by omega) (q20) (r20) (K20) (by omega)) (And.intro rfl (True.intro))
    | 17, hii =>
      cases hii
      have w3708 : (Xi T61 904 70) = 17 := by simpa using w3384
      have w3714 : 0 ≤ Xi T61 904 142 ∧ Xi T61 904 142 ≤ 4 := hHT61.c _ _
      exact Rl_weak (C327 T61 hHT61 hFT61  (by omega) (by omega) (by omega) (by omega) (by omega) (by omega) (by omega) (by omega) (by omega) (by omega) (by omega) (by omega) (by omega) (by omega) (by omega) (by omega) (q20) (r20) (K20) (by omega)) (And.intro rfl (True.intro))
    | 18, hii =>
      cases hii
      have w3726 : (Xi T61 904 70) = 18 := by simpa using w3384
      have w3732 : 0 ≤ Xi T61 904 142 ∧ Xi T61 904 142 ≤ 4 := hHT61.c _ _
      exact Rl_weak (C410 T61 hHT61 hFT61  (by omega) (by omega) (by omega) (by omega) (by omega) (by omega) (by omega) (by omega) (by omega) (by omega) (by omega) (by omega) (by omega) (by omega) (by omega) (by omega) (q20) (r20) (K20) (by omega)) (And.intro rfl (True.intro))
    | 19, hii =>
      cases hii
      have w3744 : (Xi T61 904 70) = 19 := by simpa using w3384
      have w3750 : 0 ≤ Xi T61 904 142 ∧ Xi T61 904 142 ≤ 4 := hHT61.c _ _
      exact Rl_weak (C454 T61 hHT61 hFT61  (by omega) (by omega) (by omega) (by omega) (by omega) (by omega) (by omega) (by omega) (by omega) (by omega) (by omega) (by omega) (by omega) (by omega) (by omega) (by omega) (q20) (r20) (K20) (by omega)) (And.intro rfl (True.intro))
    | 20, hii =>
      cases hii
      have w3762 : (Xi T61 904 70) = 20 := by simpa using w3384
      have w3768 : 0 ≤ Xi T61 904 142 ∧ Xi T61 904 142 ≤ 4 := hHT61.c _ _
      exact Rl_weak (C518 T61 hHT61 hFT61  (by omega) (by omega) (by omega) (by omega) (by omega) (by omega) (by omega) (by omega) (by omega) (by omega) (by omega) (by omega) (by omega) (by omega) (by omega) (by omega) (q20) (r20) (K20) (by omega)) (And.intro rfl (And.intro rfl (True.intro)))
    | n + 21, hii => exact absurd hii (by simp)
set_option maxRecDepth 100000 in
set_option maxHeartbeats 8000000 in
theorem t_mo_asked {S : sS} (hH : HI S) (n : Nat) (dd : Nat) (first : Int) (hfirst : 0 ≤ first ∧ first ≤ 5001) (hT : TK S n) (hv : RNV S n) (hM : LXM S) (hB : ABV S) (hC : DCM S) (hK : TXK S n) (hX : TXM S) (hq : SNQ S n) (hap : AP9 S n) (h94 : Xi S 904 94 ≤ 1668) (hRD : RDT S) (hPF : PF S) (hdt : Xi S 904 70 = 20 → first ≤ dd ∧ dd < n ∧ Xi S 907 dd = 46) (d : Nat) : Mt lay0 (d + 13) m_mo_asked [.ref 904, iv first] S (Q_mo_asked S n dd first) := by
  refine Mt_R rfl rfl ?_
  have C526 := c526_mo_asked hH n dd first hfirst hT hv hM hB hC hK hX hq hap h94 hRD hPF hdt d 
  have C124 := c124_mo_asked hH n dd first hfirst hT hv hM hB hC hK hX hq hap h94 hRD hPF hdt d 
  have C149 := c149_mo_asked hH n dd first hfirst hT hv hM hB hC hK hX hq hap h94 hRD hPF hdt d 
  have C156 := c156_mo_asked hH n dd first hfirst hT hv hM hB hC hK hX hq hap h94 hRD hPF hdt d 
  have C183 := c183_mo_asked hH n dd first hfirst hT hv hM hB hC hK hX hq hap h94 hRD hPF hdt d 
  have C224 := c224_mo_asked hH n dd first hfirst hT hv hM hB hC hK hX hq hap h94 hRD hPF hdt d 
  have C190 := c190_mo_asked hH n dd first hfirst hT hv hM hB hC hK hX hq hap h94 hRD hPF hdt d 
  have C234 := c234_mo_asked hH n dd first hfirst hT hv hM hB hC hK hX hq hap h94 hRD hPF hdt d 
  have C241 := c241_mo_asked hH n dd first hfirst hT hv hM hB hC hK hX hq hap h94 hRD hPF hdt d 
  have C248 := c248_mo_asked hH n dd first hfirst hT hv hM hB hC hK hX hq hap h94 hRD hPF hdt d 
  have C302 := c302_mo_asked hH n dd first hfirst hT hv hM hB hC hK hX hq hap h94 hRD hPF hdt d 
  have C313 := c313_mo_asked hH n dd first hfirst hT hv hM hB hC hK hX hq hap h94 hRD hPF hdt d 
  have C320 := c320_mo_asked hH n dd first hfirst hT hv hM hB hC hK hX hq hap h94 hRD hPF hdt d 
  have C358 := c358_mo_asked hH n dd first hfirst hT hv hM hB hC hK hX hq hap h94 hRD hPF hdt d 
  have C327 := c327_mo_asked hH n dd first hfirst hT hv hM hB hC hK hX hq hap h94 hRD hPF hdt d 
  have C427 := c427_mo_asked hH n dd first hfirst hT hv hM hB hC hK hX hq hap h94 hRD hPF hdt d 
  have C410 := c410_mo_asked hH n dd first hfirst hT hv hM hB hC hK hX hq hap h94 hRD hPF hdt d 
  have C490 := c490_mo_asked hH n dd first hfirst hT hv hM hB hC hK hX hq hap h94 hRD hPF hdt d 
  have C454 := c454_mo_asked hH n dd first hfirst hT hv hM hB hC hK hX hq hap h94 hRD hPF hdt d 
  have C518 := c518_mo_asked hH n dd first hfirst hT hv hM hB hC hK hX hq hap h94 hRD hPF hdt d 
  have C20 := c20_mo_asked hH n dd first hfirst hT hv hM hB hC hK hX hq hap h94 hRD hPF hdt d 
  have hF : FR md_mo_asked S S := FR.rf
  have w1 : 0 ≤ Xi S 904 106 ∧ Xi S 904 106 ≤ 9 := hH.c _ _
  have w2 : 0 ≤ Xi S 904 108 ∧ Xi S 904 108 ≤ 2600 := hH.c _ _
  have w3 : -1 ≤ Xi S 904 115 ∧ Xi S 904 115 ≤ 15 := hH.c _ _
  have w4 : -1 ≤ Xi S 904 116 ∧ Xi S 904 116 ≤ 15 := hH.c _ _
  have w5 : 0 ≤ Xi S 904 117 ∧ Xi S 904 117 ≤ 480 := hH.c _ _
  have w6 : 0 ≤ Xi S 904 23 ∧ Xi S 904 23 ≤ 24 := hH.c _ _
  have w7 : 0 ≤ Xi S 904 41 ∧ Xi S 904 41 ≤ 6 := hH.c _ _
  have w8 : -1 ≤ Xi S 904 60 ∧ Xi S 904 60 ≤ 23 := hH.c _ _
  have w9 : 0 ≤ Xi S 904 69 ∧ Xi S 904 69 ≤ 2600 := hH.c _ _
  have w10 : 0 ≤ Xi S 904 70 ∧ Xi S 904 70 ≤ 20 := hH.c _ _
  have w11 : 0 ≤ Xi S 904 71 ∧ Xi S 904 71 ≤ 2600 := hH.c _ _
  have w12 : 0 ≤ Xi S 904 72 ∧ Xi S 904 72 ≤ 2600 := hH.c _ _
  have w13 : 0 ≤ Xi S 904 73 ∧ Xi S 904 73 ≤ 5 := hH.c _ _
  have w14 : 0 ≤ Xi S 904 74 ∧ Xi S 904 74 ≤ 2600 := hH.c _ _
  have w15 : -2 ≤ Xi S 904 78 ∧ Xi S 904 78 ≤ 5010 := hH.c _ _
  have w16 : 0 ≤ Xi S 904 81 ∧ Xi S 904 81 ≤ 5010 := hH.c _ _
  have w17 : 0 ≤ Xi S 904 94 ∧ Xi S 904 94 ≤ 1700 := hH.c _ _
  have w18 : 0 ≤ Xi S 904 98 ∧ Xi S 904 98 ≤ 1700 := hH.c _ _
  have w19 : 0 ≤ Xi S 951 0 ∧ Xi S 951 0 ≤ 5010 := hH.c _ _
  have w20 : 0 ≤ Xi S 951 1 ∧ Xi S 951 1 ≤ 5010 := hH.c _ _
  have hn5 := hT.1
  have hc69 : 0 ≤ Xi S 904 69 ∧ Xi S 904 69 ≤ 2600 := hH.c _ _
  have hc70 : 0 ≤ Xi S 904 70 ∧ Xi S 904 70 ≤ 20 := hH.c _ _
  have hc23 : 0 ≤ Xi S 904 23 ∧ Xi S 904 23 ≤ 24 := hH.c _ _
  have hrf : ∀ r : Int, 0 ≤ r → r < Xi S 904 69 → Xi S 950 r.toNat + Xi S 951 r.toNat ≤ n ∧ 1 ≤ Xi S 951 r.toNat := fun r a b => hv r.toNat (by omega)
  have hq0 : KQL S S (Xi S 904 117) := KQL.rf
  refine l_aload_n rfl rfl ?_
  refine l_iconst rfl ?_
  refine l_pfi rfl rfl rfl rfl ?_
  obtain ⟨U62, eU62⟩ : ∃ T : sS, T = uI S 904 106 (Int32.ofInt 0) := ⟨_, rfl⟩
  rw [← eU62]
  have hHU62 : HI U62 := by rw [eU62]; exact HI_w hH (show 0 ≤ 0 by omega) (show 0 ≤ 9 by omega)
  have hFU62 : FR md_mo_asked S U62 := by rw [eU62]; exact FR.wI hF (mdf_i (r := (904, 905, 106, 107)) (List.mem_of_getElem? (i := 3) rfl) (inR_i (by omega) (by omega) (by omega) (by omega)))
  have w3780 : Xi U62 904 106 = 0 := by rw [eU62]; exact Xi_same (by unfold rg; omega)
  refine l_aload_n rfl rfl ?_
  refine l_iconst rfl ?_
  refine l_pfi rfl rfl rfl rfl ?_
  obtain ⟨U63, eU63⟩ : ∃ T : sS, T = uI U62 904 108 (Int32.ofInt 0) := ⟨_, rfl⟩
  rw [← eU63]
  have hHU63 : HI U63 := by rw [eU63]; exact HI_w hHU62 (show 0 ≤ 0 by omega) (show 0 ≤ 2600 by omega)
  have hFU63 : FR md_mo_asked S U63 := by rw [eU63]; exact FR.wI hFU62 (mdf_i (r := (904, 905, 108, 109)) (List.mem_of_getElem? (i := 4) rfl) (inR_i (by omega) (by omega) (by omega) (by omega)))
  have w3781 : Xi U63 904 108 = 0 := by rw [eU63]; exact Xi_same (by unfold rg; omega)
  refine l_aload_n rfl rfl ?_
  refine l_iconst rfl ?_
  refine l_pfi rfl rfl rfl rfl ?_
  obtain ⟨U64, eU64⟩ : ∃ T : sS, T = uI U63 904 115 (Int32.ofInt (-1)) := ⟨_, rfl⟩
  rw [← eU64]
  have hHU64 : HI U64 := by rw [eU64]; exact HI_w hHU63 (show -1 ≤ (-1) by omega) (show (-1) ≤ 15 by omega)
  have hFU64 : FR md_mo_asked S U64 := by rw [eU64]; exact FR.wI hFU63 (mdf_i (r := (904, 905, 115, 116)) (List.mem_of_getElem? (i := 9) rfl) (inR_i (by omega) (by omega) (by omega) (by omega)))
  have w3782 : Xi U64 904 115 = (-1) := by rw [eU64]; exact Xi_same (by unfold rg; omega)
  refine l_aload_n rfl rfl ?_
  refine l_iconst rfl ?_
  refine l_pfi rfl rfl rfl rfl ?_
  obtain ⟨U65, eU65⟩ : ∃ T : sS, T = uI U64 904 116 (Int32.ofInt (-1)) := ⟨_, rfl⟩
  rw [← eU65]
  have hHU65 : HI U65 := by rw [eU65]; exact HI_w hHU64 (show -1 ≤ (-1) by omega) (show (-1) ≤ 15 by omega)
  have hFU65 : FR md_mo_asked S U65 := by rw [eU65]; exact FR.wI hFU64 (mdf_i (r := (904, 905, 116, 117)) (List.mem_of_getElem? (i := 10) rfl) (inR_i (by omega) (by omega) (by omega) (by omega)))
  have w3783 : Xi U65 904 116 = (-1) := by rw [eU65]; exact Xi_same (by unfold rg; omega)
  have w3784 : Xi U65 904 106 = Xi U62 904 106 := (show Xi U65 904 106 = Xi U64 904 106 from by rw [eU65]; exact Xi_ne (by omega)).trans ( (show Xi U64 904 106 = Xi U63 904 106 from by rw [eU64]; exact Xi_ne (by omega)).trans ((show Xi U63 904 106 = Xi U62 904 106 from by rw [eU63]; exact Xi_ne (by omega))))
  have w3785 : 0 ≤ Xi U62 904 106 ∧ Xi U62 904 106 ≤ 9 := hHU62.c _ _
  have w3786 : Xi U65 904 108 = Xi U63 904 108 := (show Xi U65 904 108 = Xi U64 904 108 from by rw [eU65]; exact Xi_ne (by omega)).trans ((show Xi U64 904 108 = Xi U63 904 108 from by rw [eU64]; exact Xi_ne (by omega)))
  have w3787 : 0 ≤ Xi U63 904 108 ∧ Xi U63 904 108 ≤ 2600 := hHU63.c _ _
  have w3788 : Xi U65 904 109 = Xi S 904 109 := (show Xi U65 904 109 = Xi U64 904 109 from by rw [eU65]; exact Xi_ne (by omega)).trans ( (show Xi U64 904 109 = Xi U63 904 109 from by rw [eU64]; exact Xi_ne (by omega)).trans ( (show Xi U63 904 109 = Xi U62 904 109 from by rw [eU63]; exact Xi_ne (by omega)).trans ((show Xi U62 904 109 = Xi S 904 109 from by rw [eU62]; exact Xi_ne (by omega)))))
  have w3789 : Xi U65 904 115 = Xi U64 904 115 := (show Xi U65 904 115 = Xi U64 904 115 from by rw [eU65]; exact Xi_ne (by omega))
  have w3790 : -1 ≤ Xi U64 904 115 ∧ Xi U64 904 115 ≤ 15 := hHU64.c _ _
  have w3791 : -1 ≤ Xi U65 904 116 ∧ Xi U65 904 116 ≤ 15 := hHU65.c _ _
  have w3792 : Xi U65 904 117 = Xi S 904 117 := (show Xi U65 904 117 = Xi U64 904 117 from by rw [eU65]; exact Xi_ne (by omega)).trans ( (show Xi U64 904 117 = Xi U63 904 117 from by rw [eU64]; exact Xi_ne (by omega)).trans ( (show Xi U63 904 117 = Xi U62 904 117 from by rw [eU63]; exact Xi_ne (by omega)).trans ((show Xi U62 904 117 = Xi S 904 117 from by rw [eU62]; exact Xi_ne (by omega)))))
  have w3794 : Xi U65 904 142 = Xi S 904 142 := (show Xi U65 904 142 = Xi U64 904 142 from by rw [eU65]; exact Xi_ne (by omega)).trans ( (show Xi U64 904 142 = Xi U63 904 142 from by rw [eU64]; exact Xi_ne (by omega)).trans ( (show Xi U63 904 142 = Xi U62 904 142 from by rw [eU63]; exact Xi_ne (by omega)).trans ((show Xi U62 904 142 = Xi S 904 142 from by rw [eU62]; exact Xi_ne (by omega)))))
  have w3795 : 0 ≤ Xi S 904 142 ∧ Xi S 904 142 ≤ 4 := hH.c _ _
  have w3796 : Xi U65 904 60 = Xi S 904 60 := (show Xi U65 904 60 = Xi U64 904 60 from by rw [eU65]; exact Xi_ne (by omega)).trans ( (show Xi U64 904 60 = Xi U63 904 60 from by rw [eU64]; exact Xi_ne (by omega)).trans ( (show Xi U63 904 60 = Xi U62 904 60 from by rw [eU63]; exact Xi_ne (by omega)).trans ((show Xi U62 904 60 = Xi S 904 60 from by rw [eU62]; exact Xi_ne (by omega)))))
  have w3798 : Xi U65 904 69 = Xi S 904 69 := (show Xi U65 904 69 = Xi U64 904 69 from by rw [eU65]; exact Xi_ne (by omega)).trans ( (show Xi U64 904 69 = Xi U63 904 69 from by rw [eU64]; exact Xi_ne (by omega)).trans ( (show Xi U63 904 69 = Xi U62 904 69 from by rw [eU63]; exact Xi_ne (by omega)).trans ((show Xi U62 904 69 = Xi S 904 69 from by rw [eU62]; exact Xi_ne (by omega)))))
  have w3800 : Xi U65 904 70 = Xi S 904 70 := (show Xi U65 904 70 = Xi U64 904 70 from by rw [eU65]; exact Xi_ne (by omega)).trans ( (show Xi U64 904 70 = Xi U63 904 70 from by rw [eU64]; exact Xi_ne (by omega)).trans ( (show Xi U63 904 70 = Xi U62 904 70 from by rw [eU63]; exact Xi_ne (by omega)).trans ((show Xi U62 904 70 = Xi S 904 70 from by rw [eU62]; exact Xi_ne (by omega)))))
  have w3802 : Xi U65 904 71 = Xi S 904 71 := (show Xi U65 904 71 = Xi U64 904 71 from by rw [eU65]; exact Xi_ne (by omega)).trans ( (show Xi U64 904 71 = Xi U63 904 71 from by rw [eU64]; exact Xi_ne (by omega)).trans ( (show Xi U63 904 71 = Xi U62 904 71 from by rw [eU63]; exact Xi_ne (by omega)).trans ((show Xi U62 904 71 = Xi S 904 71 from by rw [eU62]; exact Xi_ne (by omega)))))
  have w3804 : Xi U65 904 72 = Xi S 904 72 := (show Xi U65 904 72 = Xi U64 904 72 from by rw [eU65]; exact Xi_ne (by omega)).trans ( (show Xi U64 904 72 = Xi U63 904 72 from by rw [eU64]; exact Xi_ne (by omega)).trans ( (show Xi U63 904 72 = Xi U62 904 72 from by rw [eU63]; exact Xi_ne (by omega)).trans ((show Xi U62 904 72 = Xi S 904 72 from by rw [eU62]; exact Xi_ne (by omega)))))
  have w3806 : Xi U65 904 73 = Xi S 904 73 := (show Xi U65 904 73 = Xi U64 904 73 from by rw [eU65]; exact Xi_ne (by omega)).trans ( (show Xi U64 904 73 = Xi U63 904 73 from by rw [eU64]; exact Xi_ne (by omega)).trans ( (show Xi U63 904 73 = Xi U62 904 73 from by rw [eU63]; exact Xi_ne (by omega)).trans ((show Xi U62 904 73 = Xi S 904 73 from by rw [eU62]; exact Xi_ne (by omega)))))
  have w3808 : Xi U65 904 74 = Xi S 904 74 := (show Xi U65 904 74 = Xi U64 904 74 from by rw [eU65]; exact Xi_ne (by omega)).trans ( (show Xi U64 904 74 = Xi U63 904 74 from by rw [eU64]; exact Xi_ne (by omega)).trans ( (show Xi U63 904 74 = Xi U62 904 74 from by rw [eU63]; exact Xi_ne (by omega)).trans ((show Xi U62 904 74 = Xi S 904 74 from by rw [eU62]; exact Xi_ne (by omega)))))
  have w3810 : Xi U65 904 78 = Xi S 904 78 := (show Xi U65 904 78 = Xi U64 904 78 from by rw [eU65]; exact Xi_ne (by omega)).trans ( (show Xi U64 904 78 = Xi U63 904 78 from by rw [eU64]; exact Xi_ne (by omega)).trans ( (show Xi U63 904 78 = Xi U62 904 78 from by rw [eU63]; exact Xi_ne (by omega)).trans ((show Xi U62 904 78 = Xi S 904 78 from by rw [eU62]; exact Xi_ne (by omega)))))
  have w3812 : Xi U65 904 81 = Xi S 904 81 := (show Xi U65 904 81 = Xi U64 904 81 from by rw [eU65]; exact Xi_ne (by omega)).trans ( (show Xi U64 904 81 = Xi U63 904 81 from by rw [eU64]; exact Xi_ne (by omega)).trans ( (show Xi U63 904 81 = Xi U62 904 81 from by rw [eU63]; exact Xi_ne (by omega)).trans ((show Xi U62 904 81 = Xi S 904 81 from by rw [eU62]; exact Xi_ne (by omega)))))
  have w3814 : Xi U65 904 94 = Xi S 904 94 := (show Xi U65 904 94 = Xi U64 904 94 from by rw [eU65]; exact Xi_ne (by omega)).trans ( (show Xi U64 904 94 = Xi U63 904 94 from by rw [eU64]; exact Xi_ne (by omega)).trans ( (show Xi U63 904 94 = Xi U62 904 94 from by rw [eU63]; exact Xi_ne (by omega)).trans ((show Xi U62 904 94 = Xi S 904 94 from by rw [eU62]; exact Xi_ne (by omega)))))
  have w3816 : Xi U65 904 98 = Xi S 904 98 := (show Xi U65 904 98 = Xi U64 904 98 from by rw [eU65]; exact Xi_ne (by omega)).trans ( (show Xi U64 904 98 = Xi U63 904 98 from by rw [eU64]; exact Xi_ne (by omega)).trans ( (show Xi U63 904 98 = Xi U62 904 98 from by rw [eU63]; exact Xi_ne (by omega)).trans ((show Xi U62 904 98 = Xi S 904 98 from by rw [eU62]; exact Xi_ne (by omega)))))
  exact Rl_weak (C20 U65 hHU65 hFU65  (by omega) (by omega) (by omega) (by omega) (by omega) (by omega) (by omega) (by omega) (by omega) (by omega) (by omega) (by omega) (by omega) (by omega) (by omega) (by omega) (by first | assumption | exact (SNQ_FR hFU65 rfl (by assumption : SNQ S _))) (by first | assumption | exact (RDT_FR hHU64 (FR_e eU65) rfl rfl rfl (RDT_FR hHU63 (FR_e eU64) rfl rfl rfl (RDT_FR hHU62 (FR_e eU63) rfl rfl rfl (RDT_FR hH (FR_e eU62) rfl rfl rfl (by assumption : RDT S)))))) ((KQL_FR (FR_e eU65) rfl (KQL_FR (FR_e eU64) rfl (KQL_FR (FR_e eU63) rfl (KQL_FR (FR_e eU62) rfl (by assumption : KQL S _ _))))))) (And.intro rfl (And.intro rfl (True.intro)))


