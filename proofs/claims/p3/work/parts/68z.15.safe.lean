/-! SAFETY of methods: printed by wip/safe (vc.py, decl.py) -/
set_option maxRecDepth 100000 in
set_option maxHeartbeats 8000000 in
theorem c358_mo_asked {S : sS} (hH : HI S) (n : Nat) (dd : Nat) (first : Int) (hfirst : 0 ≤ first ∧ first ≤ 5001) (hT : TK S n) (hv : RNV S n) (hM : LXM S) (hB : ABV S) (hC : DCM S) (hK : TXK S n) (hX : TXM S) (hq : SNQ S n) (hap : AP9 S n) (h94 : Xi S 904 94 ≤ 1668) (hRD : RDT S) (hPF : PF S) (hdt : Xi S 904 70 = 20 → first ≤ dd ∧ dd < n ∧ Xi S 907 dd = 46) (d : Nat) : ∀  (T38 : sS) (_ : HI T38) (_ : FR md_mo_asked S T38), (Xi T38 904 117 = Xi S 904 117) → (Xi T38 904 60 = Xi S 904 60) → (Xi T38 904 69 = Xi S 904 69) → (Xi T38 904 70 = Xi S 904 70) → (Xi T38 904 71 = Xi S 904 71) → (Xi T38 904 72 = Xi S 904 72) → (Xi T38 904 73 = Xi S 904 73) → (Xi T38 904 74 = Xi S 904 74) → (Xi T38 904 78 = Xi S 904 78) → (Xi T38 904 81 = Xi S 904 81) → (Xi T38 904 94 = Xi S 904 94) → (Xi T38 904 98 = Xi S 904 98) → (NWV T38) → (RDT T38) → (Xi S 904 70 = 17) → (3 ≤ Xi S 904 69) → (Xi T38 904 108 = 0) → (Xi T38 904 106 = 0 → rnR S 0 0 ≠ -1 ∧ r2R S 1 2 3 ≠ -1) → Rl lay0 (d + 12) m_mo_asked 358 [(0, .ref 904)] [] T38 (Q_mo_asked S n dd first) := by
  have hF : FR md_mo_asked S S := FR.rf
  have w1 : 0 ≤ Xi S 904 106 ∧ Xi S 904 106 ≤ 9 := hH.c _ _
  have w2 : 0 ≤ Xi S 904 108 ∧ Xi S 904 108 ≤ 2600 := hH.c _ _
  have w3 : -1 ≤ Xi S 904 115 ∧ Xi S 904 115 ≤ 15 := hH.c _ _
  have w4 : -1 ≤ Xi S 904 116 ∧ Xi S 904 116 ≤ 15 := hH.c _ _
  have w5 : 0 ≤ Xi S 904 117 ∧ Xi S 904 117 ≤ 480 := hH.c _ _
  have w6 : 0 ≤ Xi S 904 23 ∧ Xi S 904 23 ≤ 24 := hH.c _ _
  have w7 : 0 ≤ Xi S 904 41 ∧ Xi S 904 41 ≤ 6 := hH.c _ _
  have w8 : -1 ≤ Xi S 904 60 ∧ Xi S 904 60 ≤ 23 := hH.c _ _
  have w9 : 0 ≤ Xi S 904 69 ∧ Xi S 904 69 ≤ 2600 := hH.c _ _
  have w10 : 0 ≤ Xi S 904 70 ∧ Xi S 904 70 ≤ 20 := hH.c _ _
  have w11 : 0 ≤ Xi S 904 71 ∧ Xi S 904 71 ≤ 2600 := hH.c _ _
  have w12 : 0 ≤ Xi S 904 72 ∧ Xi S 904 72 ≤ 2600 := hH.c _ _
  have w13 : 0 ≤ Xi S 904 73 ∧ Xi S 904 73 ≤ 5 := hH.c _ _
  have w14 : 0 ≤ Xi S 904 74 ∧ Xi S 904 74 ≤ 2600 := hH.c _ _
  have w15 : -2 ≤ Xi S 904 78 ∧ Xi S 904 78 ≤ 5010 := hH.c _ _
  have w16 : 0 ≤ Xi S 904 81 ∧ Xi S 904 81 ≤ 5010 := hH.c _ _
  have w17 : 0 ≤ Xi S 904 94 ∧ Xi S 904 94 ≤ 1700 := hH.c _ _
  have w18 : 0 ≤ Xi S 904 98 ∧ Xi S 904 98 ≤ 1700 := hH.c _ _
  have w19 : 0 ≤ Xi S 951 0 ∧ Xi S 951 0 ≤ 5010 := hH.c _ _
  have w20 : 0 ≤ Xi S 951 1 ∧ Xi S 951 1 ≤ 5010 := hH.c _ _
  have hn5 := hT.1
  have hc69 : 0 ≤ Xi S 904 69 ∧ Xi S 904 69 ≤ 2600 := hH.c _ _
  have hc70 : 0 ≤ Xi S 904 70 ∧ Xi S 904 70 ≤ 20 := hH.c _ _
  have hc23 : 0 ≤ Xi S 904 23 ∧ Xi S 904 23 ≤ 24 := hH.c _ _
  have hrf : ∀ r : Int, 0 ≤ r → r < Xi S 904 69 → Xi S 950 r.toNat + Xi S 951 r.toNat ≤ n ∧ 1 ≤ Xi S 951 r.toNat := fun r a b => hv r.toNat (by omega)
  have hq0 : KQL S S (Xi S 904 117) := KQL.rf
  intro T38 hHT38 hFT38 w1907 w1908 w1909 w1910 w1911 w1912 w1913 w1914 w1915 w1916 w1917 w1918 N358 R358 w1919 w1920 w1921 E358
  have w1922 : Xi T38 904 102 = Xi S 904 102 := hFT38.x _ _ rfl
  have w1923 : Xi T38 904 103 = Xi S 904 103 := hFT38.x _ _ rfl
  have w1924 : Xi T38 904 16 = Xi S 904 16 := hFT38.x _ _ rfl
  have w1925 : Xi T38 904 18 = Xi S 904 18 := hFT38.x _ _ rfl
  have w1926 : Xi T38 904 19 = Xi S 904 19 := hFT38.x _ _ rfl
  have w1927 : Xi T38 904 23 = Xi S 904 23 := hFT38.x _ _ rfl
  have w1928 : Xi T38 904 30 = Xi S 904 30 := hFT38.x _ _ rfl
  have w1929 : Xi T38 904 41 = Xi S 904 41 := hFT38.x _ _ rfl
  have w1930 : Xi T38 904 47 = Xi S 904 47 := hFT38.x _ _ rfl
  have w1931 : Xi T38 904 49 = Xi S 904 49 := hFT38.x _ _ rfl
  have w1932 : Xi T38 904 55 = Xi S 904 55 := hFT38.x _ _ rfl
  have w1933 : Xi T38 904 60 = Xi S 904 60 := hFT38.x _ _ rfl
  have w1934 : Xi T38 904 69 = Xi S 904 69 := hFT38.x _ _ rfl
  have w1935 : Xi T38 904 70 = Xi S 904 70 := hFT38.x _ _ rfl
  have w1936 : Xi T38 904 71 = Xi S 904 71 := hFT38.x _ _ rfl
  have w1937 : Xi T38 904 72 = Xi S 904 72 := hFT38.x _ _ rfl
  have w1938 : Xi T38 904 73 = Xi S 904 73 := hFT38.x _ _ rfl
  have w1939 : Xi T38 904 74 = Xi S 904 74 := hFT38.x _ _ rfl
  have w1940 : Xi T38 904 78 = Xi S 904 78 := hFT38.x _ _ rfl
  have w1941 : Xi T38 904 81 = Xi S 904 81 := hFT38.x _ _ rfl
  have w1942 : Xi T38 904 94 = Xi S 904 94 := hFT38.x _ _ rfl
  have w1943 : Xi T38 904 98 = Xi S 904 98 := hFT38.x _ _ rfl
  have w1944 : Xi T38 951 0 = Xi S 951 0 := hFT38.x _ _ rfl
  have w1945 : Xi T38 951 1 = Xi S 951 1 := hFT38.x _ _ rfl
  have w1946 : 0 ≤ Xi T38 904 106 ∧ Xi T38 904 106 ≤ 9 := hHT38.c _ _
  have w1947 : 0 ≤ Xi T38 904 108 ∧ Xi T38 904 108 ≤ 2600 := hHT38.c _ _
  have w1948 : 0 ≤ Xi T38 904 117 ∧ Xi T38 904 117 ≤ 480 := hHT38.c _ _
  have w1949 : -1 ≤ Xi T38 904 60 ∧ Xi T38 904 60 ≤ 23 := hHT38.c _ _
  have w1950 : 0 ≤ Xi T38 904 69 ∧ Xi T38 904 69 ≤ 2600 := hHT38.c _ _
  have w1951 : 0 ≤ Xi T38 904 70 ∧ Xi T38 904 70 ≤ 20 := hHT38.c _ _
  have w1952 : 0 ≤ Xi T38 904 71 ∧ Xi T38 904 71 ≤ 2600 := hHT38.c _ _
  have w1953 : 0 ≤ Xi T38 904 72 ∧ Xi T38 904 72 ≤ 2600 := hHT38.c _ _
  have w1954 : 0 ≤ Xi T38 904 73 ∧ Xi T38 904 73 ≤ 5 := hHT38.c _ _
  have w1955 : 0 ≤ Xi T38 904 74 ∧ Xi T38 904 74 ≤ 2600 := hHT38.c _ _
  have w1956 : -2 ≤ Xi T38 904 78 ∧ Xi T38 904 78 ≤ 5010 := hHT38.c _ _
  have w1957 : 0 ≤ Xi T38 904 81 ∧ Xi T38 904 81 ≤ 5010 := hHT38.c _ _
  have w1958 : 0 ≤ Xi T38 904 94 ∧ Xi T38 904 94 ≤ 1700 := hHT38.c _ _
  have w1959 : 0 ≤ Xi T38 904 98 ∧ Xi T38 904 98 ≤ 1700 := hHT38.c _ _
  refine l_aload_n rfl rfl ?_
  have z358_2 : Xi S 950 2 + Xi S 951 2 ≤ n ∧ 1 ≤ Xi S 951 2 := hv 2 (by omega)
  refine l_iconst rfl ?_
  have w1960 : 0 ≤ Xi T38 904 106 ∧ Xi T38 904 106 ≤ 9 := hHT38.c _ _
  have w1961 : 0 ≤ Xi T38 904 108 ∧ Xi T38 904 108 ≤ 2600 := hHT38.c _ _
  have w1962 : -1 ≤ Xi T38 904 115 ∧ Xi T38 904 115 ≤ 15 := hHT38.c _ _
  have w1963 : -1 ≤ Xi T38 904 116 ∧ Xi T38 904 116 ≤ 15 := hHT38.c _ _
  have w1964 : 0 ≤ Xi T38 904 117 ∧ Xi T38 904 117 ≤ 480 := hHT38.c _ _
  have w1965 : 0 ≤ Xi T38 904 142 ∧ Xi T38 904 142 ≤ 4 := hHT38.c _ _
  have w1966 : -1 ≤ Xi T38 904 60 ∧ Xi T38 904 60 ≤ 23 := hHT38.c _ _
  have w1967 : 0 ≤ Xi T38 904 69 ∧ Xi T38 904 69 ≤ 2600 := hHT38.c _ _
  have w1968 : 0 ≤ Xi T38 904 70 ∧ Xi T38 904 70 ≤ 20 := hHT38.c _ _
  have w1969 : 0 ≤ Xi T38 904 71 ∧ Xi T38 904 71 ≤ 2600 := hHT38.c _ _
  have w1970 : 0 ≤ Xi T38 904 72 ∧ Xi T38 904 72 ≤ 2600 := hHT38.c _ _
  have w1971 : 0 ≤ Xi T38 904 73 ∧ Xi T38 904 73 ≤ 5 := hHT38.c _ _
  have w1972 : 0 ≤ Xi T38 904 74 ∧ Xi T38 904 74 ≤ 2600 := hHT38.c _ _
  have w1973 : -2 ≤ Xi T38 904 78 ∧ Xi T38 904 78 ≤ 5010 := hHT38.c _ _
  have w1974 : 0 ≤ Xi T38 904 81 ∧ Xi T38 904 81 ≤ 5010 := hHT38.c _ _
  have w1975 : 0 ≤ Xi T38 904 94 ∧ Xi T38 904 94 ≤ 1700 := hHT38.c _ _
  have w1976 : 0 ≤ Xi T38 904 98 ∧ Xi T38 904 98 ≤ 1700 := hHT38.c _ _
  refine l_callV rfl rfl rfl (t_mo_meansNothing__2 hHT38 n 2 ⟨by omega, by omega⟩ (by first | assumption | exact (TK_FR hFT38 rfl (by assumption : TK S _))) (by first | assumption | exact (RNV_FR hFT38 rfl (by assumption : RNV S _))) (by first | assumption | omega) _) ?_
  rintro _ _ ⟨rfl, z1978, rfl, w1978, w1977⟩
  show Rl _ _ _ _ _ [iv z1978] _ _
  have m360 : (z1978 = 1 → rmR S 2 = -1) := fun x => by have t := (by assumption : (z1978 = 1 → rmR T38 2 = -1) ∧ _).1 x; rw [rmR_FR hFT38 rfl rfl] at t; exact t
  refine l_if_eq rfl rfl (by unfold rg; omega) (fun w1979 => ?_) (fun w1980 => ?_)
  · refine l_aload_n rfl rfl ?_
    refine l_aload_n rfl rfl ?_
    refine l_iconst rfl ?_
    refine l_bipush rfl rfl ?_
    have w1981 : 0 ≤ Xi T38 904 106 ∧ Xi T38 904 106 ≤ 9 := hHT38.c _ _
    have w1982 : 0 ≤ Xi T38 904 108 ∧ Xi T38 904 108 ≤ 2600 := hHT38.c _ _
    have w1983 : -1 ≤ Xi T38 904 115 ∧ Xi T38 904 115 ≤ 15 := hHT38.c _ _
    have w1984 : -1 ≤ Xi T38 904 116 ∧ Xi T38 904 116 ≤ 15 := hHT38.c _ _
    have w1985 : 0 ≤ Xi T38 904 117 ∧ Xi T38 904 117 ≤ 480 := hHT38.c _ _
    have w1986 : 0 ≤ Xi T38 904 142 ∧ Xi T38 904 142 ≤ 4 := hHT38.c _ _
    have w1987 : -1 ≤ Xi T38 904 60 ∧ Xi T38 904 60 ≤ 23 := hHT38.c _ _
    have w1988 : 0 ≤ Xi T38 904 69 ∧ Xi T38 904 69 ≤ 2600 := hHT38.c _ _
    have w1989 : 0 ≤ Xi T38 904 70 ∧ Xi T38 904 70 ≤ 20 := hHT38.c _ _
    have w1990 : 0 ≤ Xi T38 904 71 ∧ Xi T38 904 71 ≤ 2600 := hHT38.c _ _
    have w1991 : 0 ≤ Xi T38 904 72 ∧ Xi T38 904 72 ≤ 2600 := hHT38.c _ _
    have w1992 : 0 ≤ Xi T38 904 73 ∧ Xi T38 904 73 ≤ 5 := hHT38.c _ _
    have w1993 : 0 ≤ Xi T38 904 74 ∧ Xi T38 904 74 ≤ 2600 := hHT38.c _ _
    have w1994 : -2 ≤ Xi T38 904 78 ∧ Xi T38 904 78 ≤ 5010 := hHT38.c _ _
    have w1995 : 0 ≤ Xi T38 904 81 ∧ Xi T38 904 81 ≤ 5010 := hHT38.c _ _
    have w1996 : 0 ≤ Xi T38 904 94 ∧ Xi T38 904 94 ≤ 1700 := hHT38.c _ _
    have w1997 : 0 ≤ Xi T38 904 98 ∧ Xi T38 904 98 ≤ 1700 := hHT38.c _ _
    refine l_callV rfl rfl rfl (t_mo_meansRun__2 hHT38 n 2 7 ⟨by omega, by omega⟩ ⟨by omega, by omega⟩ (by first | assumption | exact (TK_FR hFT38 rfl (by assumption : TK S _))) (by first | assumption | exact (RNV_FR hFT38 rfl (by assumption : RNV S _))) (by first | assumption | omega) (by first | assumption | exact (LXM_FR hFT38 rfl (by assumption : LXM S))) _) ?_
    rintro _ _ ⟨rfl, z2000, rfl, w2000, w1998, w1999⟩
    show Rl _ _ _ _ _ [iv z2000, .ref 904] _ _
    have r385 : z2000 = rnR S 2 7 := (by assumption : z2000 = rnR T38 _ _).trans (rnR_FR hFT38 rfl rfl)
    refine l_iconst rfl ?_
    refine l_icmp_eq rfl rfl (by unfold rg; omega) (by unfold rg; omega) (fun w2001 => ?_) (fun w2002 => ?_)
    · refine l_iconst rfl ?_
      refine l_iconst rfl ?_
      refine l_aload_n rfl rfl ?_
      refine l_gfr rfl rfl rfl rfl rfl (hHT38.r 904 67 950 rfl) ?_
      refine l_iconst rfl ?_
      refine l_iaload (n := 2600) rfl rfl (by omega) (by omega) (by unfold rg; omega) ?_
      have w2003 : 0 ≤ (Xi T38 950 ((2 : Int).toNat)) ∧ (Xi T38 950 ((2 : Int).toNat)) ≤ 5010 := hHT38.c _ _
      have w2004 : (Xi T38 950 ((2 : Int).toNat)) = Xi T38 950 2 := rfl
      have e403 : (Xi T38 950 ((2 : Int).toNat)) = Xi S 950 2 := by first | rfl | exact (hFT38.cx 950 rfl _).1
      have w2005 : 0 ≤ Xi T38 904 106 ∧ Xi T38 904 106 ≤ 9 := hHT38.c _ _
      have w2006 : 0 ≤ Xi T38 904 108 ∧ Xi T38 904 108 ≤ 2600 := hHT38.c _ _
      have w2007 : -1 ≤ Xi T38 904 115 ∧ Xi T38 904 115 ≤ 15 := hHT38.c _ _
      have w2008 : -1 ≤ Xi T38 904 116 ∧ Xi T38 904 116 ≤ 15 := hHT38.c _ _
      have w2009 : 0 ≤ Xi T38 904 117 ∧ Xi T38 904 117 ≤ 480 := hHT38.c _ _
      have w2010 : 0 ≤ Xi T38 904 142 ∧ Xi T38 904 142 ≤ 4 := hHT38.c _ _
      have w2011 : -1 ≤ Xi T38 904 60 ∧ Xi T38 904 60 ≤ 23 := hHT38.c _ _
      have w2012 : 0 ≤ Xi T38 904 69 ∧ Xi T38 904 69 ≤ 2600 := hHT38.c _ _
      have w2013 : 0 ≤ Xi T38 904 70 ∧ Xi T38 904 70 ≤ 20 := hHT38.c _ _
      have w2014 : 0 ≤ Xi T38 904 71 ∧ Xi T38 904 71 ≤ 2600 := hHT38.c _ _
      have w2015 : 0 ≤ Xi T38 904 72 ∧ Xi T38 904 72 ≤ 2600 := hHT38.c _ _
      have w2016 : 0 ≤ Xi T38 904 73 ∧ Xi T38 904 73 ≤ 5 := hHT38.c _ _
      have w2017 : 0 ≤ Xi T38 904 74 ∧ Xi T38 904 74 ≤ 2600 := hHT38.c _ _
      have w2018 : -2 ≤ Xi T38 904 78 ∧ Xi T38 904 78 ≤ 5010 := hHT38.c _ _
      have w2019 : 0 ≤ Xi T38 904 81 ∧ Xi T38 904 81 ≤ 5010 := hHT38.c _ _
      have w2020 : 0 ≤ Xi T38 904 94 ∧ Xi T38 904 94 ≤ 1700 := hHT38.c _ _
      have w2021 : 0 ≤ Xi T38 904 98 ∧ Xi T38 904 98 ≤ 1700 := hHT38.c _ _
      refine l_callV rfl rfl rfl (t_mo_need hHT38 0 4 (Xi T38 950 ((2 : Int).toNat)) ⟨by omega, by omega⟩ ⟨by omega, by omega⟩ ⟨by omega, by omega⟩ _) ?_
      rintro _ T39 ⟨hHT39, w2025, rfl, w2022, w2023⟩
      have hFT39 : FR md_mo_asked S T39 := FR.tr hFT38 w2025 rfl
      show Rl _ _ _ _ _ [] _ _
      have y404_69 : Xi T39 904 69 = Xi T38 904 69 := ((show Xi T39 904 69 = Xi T38 904 69 from w2025.x _ _ rfl))
      have y404_70 : Xi T39 904 70 = Xi T38 904 70 := ((show Xi T39 904 70 = Xi T38 904 70 from w2025.x _ _ rfl))
      have y404_71 : Xi T39 904 71 = Xi T38 904 71 := ((show Xi T39 904 71 = Xi T38 904 71 from w2025.x _ _ rfl))
      have y404_72 : Xi T39 904 72 = Xi T38 904 72 := ((show Xi T39 904 72 = Xi T38 904 72 from w2025.x _ _ rfl))
      have y404_73 : Xi T39 904 73 = Xi T38 904 73 := ((show Xi T39 904 73 = Xi T38 904 73 from w2025.x _ _ rfl))
      have y404_74 : Xi T39 904 74 = Xi T38 904 74 := ((show Xi T39 904 74 = Xi T38 904 74 from w2025.x _ _ rfl))
      have y404_78 : Xi T39 904 78 = Xi T38 904 78 := ((show Xi T39 904 78 = Xi T38 904 78 from w2025.x _ _ rfl))
      have y404_81 : Xi T39 904 81 = Xi T38 904 81 := ((show Xi T39 904 81 = Xi T38 904 81 from w2025.x _ _ rfl))
      have y404_94 : Xi T39 904 94 = Xi T38 904 94 := ((show Xi T39 904 94 = Xi T38 904 94 from w2025.x _ _ rfl))
      have y404_98 : Xi T39 904 98 = Xi T38 904 98 := ((show Xi T39 904 98 = Xi T38 904 98 from w2025.x _ _ rfl))
      have y404_60 : Xi T39 904 60 = Xi T38 904 60 := ((show Xi T39 904 60 = Xi T38 904 60 from w2025.x _ _ rfl))
      have y404_117 : Xi T39 904 117 = Xi T38 904 117 := ((show Xi T39 904 117 = Xi T38 904 117 from w2025.x _ _ rfl))
      have F404 : Xi T39 904 106 = 0 → DOK T39 := fun q => dok_17 (by omega) (⟨by rw [rnR_FR hFT39 rfl rfl]; exact (E358 (by omega)).1, by rw [r2R_FR hFT39 rfl rfl]; exact (E358 (by omega)).2, fun y => absurd y (by rw [rnR_FR hFT39 rfl rfl]; omega)⟩)
      refine l_goto rfl rfl ?_
      refine l_return rfl rfl ?_
      have w2026 : 0 ≤ Xi T39 904 106 ∧ Xi T39 904 106 ≤ 9 := hHT39.c _ _
      have w2027 : Xi T39 904 108 = Xi T38 904 108 := (show Xi T39 904 108 = Xi T38 904 108 from w2025.x _ _ rfl)
      have w2028 : 0 ≤ Xi T38 904 108 ∧ Xi T38 904 108 ≤ 2600 := hHT38.c _ _
      have w2029 : Xi T39 904 109 = Xi T38 904 109 := (show Xi T39 904 109 = Xi T38 904 109 from w2025.x _ _ rfl)
      have w2030 : Xi T39 904 115 = Xi T38 904 115 := (show Xi T39 904 115 = Xi T38 904 115 from w2025.x _ _ rfl)
      have w2031 : -1 ≤ Xi T38 904 115 ∧ Xi T38 904 115 ≤ 15 := hHT38.c _ _
      have w2032 : Xi T39 904 116 = Xi T38 904 116 := (show Xi T39 904 116 = Xi T38 904 116 from w2025.x _ _ rfl)
      have w2033 : -1 ≤ Xi T38 904 116 ∧ Xi T38 904 116 ≤ 15 := hHT38.c _ _
      have w2034 : Xi T39 904 117 = Xi T38 904 117 := (show Xi T39 904 117 = Xi T38 904 117 from w2025.x _ _ rfl)
      have w2035 : 0 ≤ Xi T38 904 117 ∧ Xi T38 904 117 ≤ 480 := hHT38.c _ _
      have w2036 : Xi T39 904 142 = Xi T38 904 142 := (show Xi T39 904 142 = Xi T38 904 142 from w2025.x _ _ rfl)
      have w2037 : 0 ≤ Xi T38 904 142 ∧ Xi T38 904 142 ≤ 4 := hHT38.c _ _
      have w2038 : Xi T39 904 60 = Xi T38 904 60 := (show Xi T39 904 60 = Xi T38 904 60 from w2025.x _ _ rfl)
      have w2039 : -1 ≤ Xi T38 904 60 ∧ Xi T38 904 60 ≤ 23 := hHT38.c _ _
      have w2040 : Xi T39 904 69 = Xi T38 904 69 := (show Xi T39 904 69 = Xi T38 904 69 from w2025.x _ _ rfl)
      have w2041 : 0 ≤ Xi T38 904 69 ∧ Xi T38 904 69 ≤ 2600 := hHT38.c _ _
      have w2042 : Xi T39 904 70 = Xi T38 904 70 := (show Xi T39 904 70 = Xi T38 904 70 from w2025.x _ _ rfl)
      have w2043 : 0 ≤ Xi T38 904 70 ∧ Xi T38 904 70 ≤ 20 := hHT38.c _ _
      have w2044 : Xi T39 904 71 = Xi T38 904 71 := (show Xi T39 904 71 = Xi T38 904 71 from w2025.x _ _ rfl)
      have w2045 : 0 ≤ Xi T38 904 71 ∧ Xi T38 904 71 ≤ 2600 := hHT38.c _ _
      have w2046 : Xi T39 904 72 = Xi T38 904 72 := (show Xi T39 904 72 = Xi T38 904 72 from w2025.x _ _ rfl)
      have w2047 : 0 ≤ Xi T38 904 72 ∧ Xi T38 904 72 ≤ 2600 := hHT38.c _ _
      have w2048 : Xi T39 904 73 = Xi T38 904 73 := (show Xi T39 904 73 = Xi T38 904 73 from w2025.x _ _ rfl)
      have w2049 : 0 ≤ Xi T38 904 73 ∧ Xi T38 904 73 ≤ 5 := hHT38.c _ _
      have w2050 : Xi T39 904 74 = Xi T38 904 74 := (show Xi T39 904 74 = Xi T38 904 74 from w2025.x _ _ rfl)
      have w2051 : 0 ≤ Xi T38 904 74 ∧ Xi T38 904 74 ≤ 2600 := hHT38.c _ _
      have w2052 : Xi T39 904 78 = Xi T38 904 78 := (show Xi T39 904 78 = Xi T38 904 78 from w2025.x _ _ rfl)
      have w2053 : -2 ≤ Xi T38 904 78 ∧ Xi T38 904 78 ≤ 5010 := hHT38.c _ _
      have w2054 : Xi T39 904 81 = Xi T38 904 81 := (show Xi T39 904 81 = Xi T38 904 81 from w2025.x _ _ rfl)
      have w2055 : 0 ≤ Xi T38 904 81 ∧ Xi T38 904 81 ≤ 5010 := hHT38.c _ _
      have w2056 : Xi T39 904 94 = Xi T38 904 94 := (show Xi T39 904 94 = Xi T38 904 94 from w2025.x _ _ rfl)
      have w2057 : 0 ≤ Xi T38 904 94 ∧ Xi T38 904 94 ≤ 1700 := hHT38.c _ _
      have w2058 : Xi T39 904 98 = Xi T38 904 98 := (show Xi T39 904 98 = Xi T38 904 98 from w2025.x _ _ rfl)
      have w2059 : 0 ≤ Xi T38 904 98 ∧ Xi T38 904 98 ≤ 1700 := hHT38.c _ _
      exact ⟨hHT39, hFT39, rfl, (by assumption), (by first | exact fun q => by assumption | assumption | exact fun q => (RDT_FR hHT38 w2025 rfl rfl rfl (by assumption : RDT T38)))⟩
    · refine l_iconst rfl ?_
      refine l_goto rfl rfl ?_
      refine l_iconst rfl ?_
      refine l_aload_n rfl rfl ?_
      refine l_gfr rfl rfl rfl rfl rfl (hHT38.r 904 67 950 rfl) ?_
      refine l_iconst rfl ?_
      refine l_iaload (n := 2600) rfl rfl (by omega) (by omega) (by unfold rg; omega) ?_
      have w2060 : 0 ≤ (Xi T38 950 ((2 : Int).toNat)) ∧ (Xi T38 950 ((2 : Int).toNat)) ≤ 5010 := hHT38.c _ _
      have w2061 : (Xi T38 950 ((2 : Int).toNat)) = Xi T38 950 2 := rfl
      have e403 : (Xi T38 950 ((2 : Int).toNat)) = Xi S 950 2 := by first | rfl | exact (hFT38.cx 950 rfl _).1
      have w2062 : 0 ≤ Xi T38 904 106 ∧ Xi T38 904 106 ≤ 9 := hHT38.c _ _
      have w2063 : 0 ≤ Xi T38 904 108 ∧ Xi T38 904 108 ≤ 2600 := hHT38.c _ _
      have w2064 : -1 ≤ Xi T38 904 115 ∧ Xi T38 904 115 ≤ 15 := hHT38.c _ _
      have w2065 : -1 ≤ Xi T38 904 116 ∧ Xi T38 904 116 ≤ 15 := hHT38.c _ _
      have w2066 : 0 ≤ Xi T38 904 117 ∧ Xi T38 904 117 ≤ 480 := hHT38.c _ _
      have w2067 : 0 ≤ Xi T38 904 142 ∧ Xi T38 904 142 ≤ 4 := hHT38.c _ _
      have w2068 : -1 ≤ Xi T38 904 60 ∧ Xi T38 904 60 ≤ 23 := hHT38.c _ _
      have w2069 : 0 ≤ Xi T38 904 69 ∧ Xi T38 904 69 ≤ 2600 := hHT38.c _ _
      have w2070 : 0 ≤ Xi T38 904 70 ∧ Xi T38 904 70 ≤ 20 := hHT38.c _ _
      have w2071 : 0 ≤ Xi T38 904 71 ∧ Xi T38 904 71 ≤ 2600 := hHT38.c _ _
      have w2072 : 0 ≤ Xi T38 904 72 ∧ Xi T38 904 72 ≤ 2600 := hHT38.c _ _
      have w2073 : 0 ≤ Xi T38 904 73 ∧ Xi T38 904 73 ≤ 5 := hHT38.c _ _
      have w2074 : 0 ≤ Xi T38 904 74 ∧ Xi T38 904 74 ≤ 2600 := hHT38.c _ _
      have w2075 : -2 ≤ Xi T38 904 78 ∧ Xi T38 904 78 ≤ 5010 := hHT38.c _ _
      have w2076 : 0 ≤ Xi T38 904 81 ∧ Xi T38 904 81 ≤ 5010 := hHT38.c _ _
      have w2077 : 0 ≤ Xi T38 904 94 ∧ Xi T38 904 94 ≤ 1700 := hHT38.c _ _
      have w2078 : 0 ≤ Xi T38 904 98 ∧ Xi T38 904 98 ≤ 1700 := hHT38.c _ _
      refine l_callV rfl rfl rfl (t_mo_need hHT38 1 4 (Xi T38 950 ((2 : Int).toNat)) ⟨by omega, by omega⟩ ⟨by omega, by omega⟩ ⟨by omega, by omega⟩ _) ?_
      rintro _ T40 ⟨hHT40, w2082, rfl, w2079, w2080⟩
      have hFT40 : FR md_mo_asked S T40 := FR.tr hFT38 w2082 rfl
      show Rl _ _ _ _ _ [] _ _
      have y404_69 : Xi T40 904 69 = Xi T38 904 69 := ((show Xi T40 904 69 = Xi T38 904 69 from w2082.x _ _ rfl))
      have y404_70 : Xi T40 904 70 = Xi T38 904 70 := ((show Xi T40 904 70 = Xi T38 904 70 from w2082.x _ _ rfl))
      have y404_71 : Xi T40 904 71 = Xi T38 904 71 := ((show Xi T40 904 71 = Xi T38 904 71 from w2082.x _ _ rfl))
      have y404_72 : Xi T40 904 72 = Xi T38 904 72 := ((show Xi T40 904 72 = Xi T38 904 72 from w2082.x _ _ rfl))
      have y404_73 : Xi T40 904 73 = Xi T38 904 73 := ((show Xi T40 904 73 = Xi T38 904 73 from w2082.x _ _ rfl))
      have y404_74 : Xi T40 904 74 = Xi T38 904 74 := ((show Xi T40 904 74 = Xi T38 904 74 from w2082.x _ _ rfl))
      have y404_78 : Xi T40 904 78 = Xi T38 904 78 := ((show Xi T40 904 78 = Xi T38 904 78 from w2082.x _ _ rfl))
      have y404_81 : Xi T40 904 81 = Xi T38 904 81 := ((show Xi T40 904 81 = Xi T38 904 81 from w2082.x _ _ rfl))
      have y404_94 : Xi T40 904 94 = Xi T38 904 94 := ((show Xi T40 904 94 = Xi T38 904 94 from w2082.x _ _ rfl))
      have y404_98 : Xi T40 904 98 = Xi T38 904 98 := ((show Xi T40 904 98 = Xi T38 904 98 from w2082.x _ _ rfl))
      have y404_60 : Xi T40 904 60 = Xi T38 904 60 := ((show Xi T40 904 60 = Xi T38 904 60 from w2082.x _ _ rfl))
      have y404_117 : Xi T40 904 117 = Xi T38 904 117 := ((show Xi T40 904 117 = Xi T38 904 117 from w2082.x _ _ rfl))
      have F404 : Xi T40 904 106 = 0 → DOK T40 := fun q => dok_17 (by omega) (⟨by rw [rnR_FR hFT40 rfl rfl]; exact (E358 (by omega)).1, by rw [r2R_FR hFT40 rfl rfl]; exact (E358 (by omega)).2, fun y => absurd y (by rw [rnR_FR hFT40 rfl rfl]; omega)⟩)
      refine l_goto rfl rfl ?_
      refine l_return rfl rfl ?_
      have w2083 : 0 ≤ Xi T40 904 106 ∧ Xi T40 904 106 ≤ 9 := hHT40.c _ _
      have w2084 : Xi T40 904 108 = Xi T38 904 108 := (show Xi T40 904 108 = Xi T38 904 108 from w2082.x _ _ rfl)
      have w2085 : 0 ≤ Xi T38 904 108 ∧ Xi T38 904 108 ≤ 2600 := hHT38.c _ _
      have w2086 : Xi T40 904 109 = Xi T38 904 109 := (show Xi T40 904 109 = Xi T38 904 109 from w2082.x _ _ rfl)
      have w2087 : Xi T40 904 115 = Xi T38 904 115 := (show Xi T40 904 115 = Xi T38 904 115 from w2082.x _ _ rfl)
      have w2088 : -1 ≤ Xi T38 904 115 ∧ Xi T38 904 115 ≤ 15 := hHT38.c _ _
      have w2089 : Xi T40 904 116 = Xi T38 904 116 := (show Xi T40 904 116 = Xi T38 904 116 from w2082.x _ _ rfl)
      have w2090 : -1 ≤ Xi T38 904 116 ∧ Xi T38 904 116 ≤ 15 := hHT38.c _ _
      have w2091 : Xi T40 904 117 = Xi T38 904 117 := (show Xi T40 904 117 = Xi T38 904 117 from w2082.x _ _ rfl)
      have w2092 : 0 ≤ Xi T38 904 117 ∧ Xi T38 904 117 ≤ 480 := hHT38.c _ _
      have w2093 : Xi T40 904 142 = Xi T38 904 142 := (show Xi T40 904 142 = Xi T38 904 142 from w2082.x _ _ rfl)
      have w2094 : 0 ≤ Xi T38 904 142 ∧ Xi T38 904 142 ≤ 4 := hHT38.c _ _
      have w2095 : Xi T40 904 60 = Xi T38 904 60 := (show Xi T40 904 60 = Xi T38 904 60 from w2082.x _ _ rfl)
      have w2096 : -1 ≤ Xi T38 904 60 ∧ Xi T38 904 60 ≤ 23 := hHT38.c _ _
      have w2097 : Xi T40 904 69 = Xi T38 904 69 := (show Xi T40 904 69 = Xi T38 904 69 from w2082.x _ _ rfl)
      have w2098 : 0 ≤ Xi T38 904 69 ∧ Xi T38 904 69 ≤ 2600 := hHT38.c _ _
      have w2099 : Xi T40 904 70 = Xi T38 904 70 := (show Xi T40 904 70 = Xi T38 904 70 from w2082.x _ _ rfl)
      have w2100 : 0 ≤ Xi T38 904 70 ∧ Xi T38 904 70 ≤ 20 := hHT38.c _ _
      have w2101 : Xi T40 904 71 = Xi T38 904 71 := (show Xi T40 904 71 = Xi T38 904 71 from w2082.x _ _ rfl)
      have w2102 : 0 ≤ Xi T38 904 71 ∧ Xi T38 904 71 ≤ 2600 := hHT38.c _ _
      have w2103 : Xi T40 904 72 = Xi T38 904 72 := (show Xi T40 904 72 = Xi T38 904 72 from w2082.x _ _ rfl)
      have w2104 : 0 ≤ Xi T38 904 72 ∧ Xi T38 904 72 ≤ 2600 := hHT38.c _ _
      have w2105 : Xi T40 904 73 = Xi T38 904 73 := (show Xi T40 904 73 = Xi T38 904 73 from w2082.x _ _ rfl)
      have w2106 : 0 ≤ Xi T38 904 73 ∧ Xi T38 904 73 ≤ 5 := hHT38.c _ _
      have w2107 : Xi T40 904 74 = Xi T38 904 74 := (show Xi T40 904 74 = Xi T38 904 74 from w2082.x _ _ rfl)
      have w2108 : 0 ≤ Xi T38 904 74 ∧ Xi T38 904 74 ≤ 2600 := hHT38.c _ _
      have w2109 : Xi T40 904 78 = Xi T38 904 78 := (show Xi T40 904 78 = Xi T38 904 78 from w2082.x _ _ rfl)
      have w2110 : -2 ≤ Xi T38 904 78 ∧ Xi T38 904 78 ≤ 5010 := hHT38.c _ _
      have w2111 : Xi T40 904 81 = Xi T38 904 81 := (show Xi T40 904 81 = Xi T38 904 81 from w2082.x _ _ rfl)
      have w2112 : 0 ≤ Xi T38 904 81 ∧ Xi T38 904 81 ≤ 5010 := hHT38.c _ _
      have w2113 : Xi T40 904 94 = Xi T38 904 94 := (show Xi T40 904 94 = Xi T38 904 94 from w2082.x _ _ rfl)
      have w2114 : 0 ≤ Xi T38 904 94 ∧ Xi T38 904 94 ≤ 1700 := hHT38.c _ _
      have w2115 : Xi T40 904 98 = Xi T38 904 98 := (show Xi T40 904 98 = Xi T38 904 98 from w2082.x _ _ rfl)
      have w2116 : 0 ≤ Xi T38 904 98 ∧ Xi T38 904 98 ≤ 1700 := hHT38.c _ _
      exact ⟨hHT40, hFT40, rfl, (by assumption), (by first | exact fun q => by assumption | assumption | exact fun q => (RDT_FR hHT38 w2082 rfl rfl rfl (by assumption : RDT T38)))⟩
  · refine l_aload_n rfl rfl ?_
    refine l_iconst rfl ?_
    refine l_aload_n rfl rfl ?_
    refine l_gfi rfl rfl rfl rfl rfl ?_
    have w2117 : 0 ≤ (Xi T38 904 32) ∧ (Xi T38 904 32) ≤ 12 := hHT38.c _ _
    refine l_bipush rfl rfl ?_
    have w2118 : 0 ≤ Xi T38 904 106 ∧ Xi T38 904 106 ≤ 9 := hHT38.c _ _
    have w2119 : 0 ≤ Xi T38 904 108 ∧ Xi T38 904 108 ≤ 2600 := hHT38.c _ _
    have w2120 : -1 ≤ Xi T38 904 115 ∧ Xi T38 904 115 ≤ 15 := hHT38.c _ _
    have w2121 : -1 ≤ Xi T38 904 116 ∧ Xi T38 904 116 ≤ 15 := hHT38.c _ _
    have w2122 : 0 ≤ Xi T38 904 117 ∧ Xi T38 904 117 ≤ 480 := hHT38.c _ _
    have w2123 : 0 ≤ Xi T38 904 142 ∧ Xi T38 904 142 ≤ 4 := hHT38.c _ _
    have w2124 : -1 ≤ Xi T38 904 60 ∧ Xi T38 904 60 ≤ 23 := hHT38.c _ _
    have w2125 : 0 ≤ Xi T38 904 69 ∧ Xi T38 904 69 ≤ 2600 := hHT38.c _ _
    have w2126 : 0 ≤ Xi T38 904 70 ∧ Xi T38 904 70 ≤ 20 := hHT38.c _ _
    have w2127 : 0 ≤ Xi T38 904 71 ∧ Xi T38 904 71 ≤ 2600 := hHT38.c _ _
    have w2128 : 0 ≤ Xi T38 904 72 ∧ Xi T38 904 72 ≤ 2600 := hHT38.c _ _
    have w2129 : 0 ≤ Xi T38 904 73 ∧ Xi T38 904 73 ≤ 5 := hHT38.c _ _
    have w2130 : 0 ≤ Xi T38 904 74 ∧ Xi T38 904 74 ≤ 2600 := hHT38.c _ _
    have w2131 : -2 ≤ Xi T38 904 78 ∧ Xi T38 904 78 ≤ 5010 := hHT38.c _ _
    have w2132 : 0 ≤ Xi T38 904 81 ∧ Xi T38 904 81 ≤ 5010 := hHT38.c _ _
    have w2133 : 0 ≤ Xi T38 904 94 ∧ Xi T38 904 94 ≤ 1700 := hHT38.c _ _
    have w2134 : 0 ≤ Xi T38 904 98 ∧ Xi T38 904 98 ≤ 1700 := hHT38.c _ _
    refine l_callV rfl rfl rfl (t_mo_mustBeNew__2 hHT38 n 2 (Xi T38 904 32) 12 ⟨by omega, by omega⟩ ⟨by omega, by omega⟩ ⟨by omega, by omega⟩ (by first | assumption | exact (TK_FR hFT38 rfl (by assumption : TK S _))) (by first | assumption | exact (RNV_FR hFT38 rfl (by assumption : RNV S _))) (by first | assumption | omega) (by first | assumption | exact fun k hk => absurd hk (by omega) | exact (by assumption : NWV T38)) (by first | assumption | omega) _) ?_
    rintro _ T41 ⟨hHT41, w2140, rfl, w2135, g374, w2136, w2137, w2138⟩
    have hFT41 : FR md_mo_asked S T41 := FR.tr hFT38 w2140 rfl
    show Rl _ _ _ _ _ [] _ _
    have y374_69 : Xi T41 904 69 = Xi T38 904 69 := ((show Xi T41 904 69 = Xi T38 904 69 from w2140.x _ _ rfl))
    have y374_70 : Xi T41 904 70 = Xi T38 904 70 := ((show Xi T41 904 70 = Xi T38 904 70 from w2140.x _ _ rfl))
    have y374_71 : Xi T41 904 71 = Xi T38 904 71 := ((show Xi T41 904 71 = Xi T38 904 71 from w2140.x _ _ rfl))
    have y374_72 : Xi T41 904 72 = Xi T38 904 72 := ((show Xi T41 904 72 = Xi T38 904 72 from w2140.x _ _ rfl))
    have y374_73 : Xi T41 904 73 = Xi T38 904 73 := ((show Xi T41 904 73 = Xi T38 904 73 from w2140.x _ _ rfl))
    have y374_74 : Xi T41 904 74 = Xi T38 904 74 := ((show Xi T41 904 74 = Xi T38 904 74 from w2140.x _ _ rfl))
    have y374_78 : Xi T41 904 78 = Xi T38 904 78 := ((show Xi T41 904 78 = Xi T38 904 78 from w2140.x _ _ rfl))
    have y374_81 : Xi T41 904 81 = Xi T38 904 81 := ((show Xi T41 904 81 = Xi T38 904 81 from w2140.x _ _ rfl))
    have y374_94 : Xi T41 904 94 = Xi T38 904 94 := ((show Xi T41 904 94 = Xi T38 904 94 from w2140.x _ _ rfl))
    have y374_98 : Xi T41 904 98 = Xi T38 904 98 := ((show Xi T41 904 98 = Xi T38 904 98 from w2140.x _ _ rfl))
    have y374_60 : Xi T41 904 60 = Xi T38 904 60 := ((show Xi T41 904 60 = Xi T38 904 60 from w2140.x _ _ rfl))
    have y374_117 : Xi T41 904 117 = Xi T38 904 117 := ((show Xi T41 904 117 = Xi T38 904 117 from w2140.x _ _ rfl))
    have G374 : Xi T41 904 106 = 0 → Xi S 904 32 < 12 ∧ Xi S 951 2 ≤ 3 := fun q => (by have t := g374 q; have u := t.2.1; rw [(hFT38.cx 951 rfl _).1] at u; have v : Xi T38 904 32 = Xi S 904 32 := hFT38.x 904 32 rfl; exact ⟨by omega, u⟩)
    have u374_32 : Xi T41 904 32 = Xi S 904 32 := hFT41.x 904 32 rfl
    have F374 : Xi T41 904 106 = 0 → DOK T41 := fun q => dok_17 (by omega) (⟨by rw [rnR_FR hFT41 rfl rfl]; exact (E358 (by omega)).1, by rw [r2R_FR hFT41 rfl rfl]; exact (E358 (by omega)).2, fun _ => ⟨by have t := G374 q; omega, by rw [(hFT41.cx 951 rfl _).1]; exact (G374 q).2⟩⟩)
    refine l_goto rfl rfl ?_
    refine l_return rfl rfl ?_
    have w2141 : 0 ≤ Xi T41 904 106 ∧ Xi T41 904 106 ≤ 9 := hHT41.c _ _
    have w2142 : 0 ≤ Xi T41 904 108 ∧ Xi T41 904 108 ≤ 2600 := hHT41.c _ _
    have w2143 : Xi T41 904 109 = Xi T38 904 109 := (show Xi T41 904 109 = Xi T38 904 109 from w2140.x _ _ rfl)
    have w2144 : Xi T41 904 115 = Xi T38 904 115 := (show Xi T41 904 115 = Xi T38 904 115 from w2140.x _ _ rfl)
    have w2145 : -1 ≤ Xi T38 904 115 ∧ Xi T38 904 115 ≤ 15 := hHT38.c _ _
    have w2146 : Xi T41 904 116 = Xi T38 904 116 := (show Xi T41 904 116 = Xi T38 904 116 from w2140.x _ _ rfl)
    have w2147 : -1 ≤ Xi T38 904 116 ∧ Xi T38 904 116 ≤ 15 := hHT38.c _ _
    have w2148 : Xi T41 904 117 = Xi T38 904 117 := (show Xi T41 904 117 = Xi T38 904 117 from w2140.x _ _ rfl)
    have w2149 : 0 ≤ Xi T38 904 117 ∧ Xi T38 904 117 ≤ 480 := hHT38.c _ _
    have w2150 : Xi T41 904 142 = Xi T38 904 142 := (show Xi T41 904 142 = Xi T38 904 142 from w2140.x _ _ rfl)
    have w2151 : 0 ≤ Xi T38 904 142 ∧ Xi T38 904 142 ≤ 4 := hHT38.c _ _
    have w2152 : Xi T41 904 60 = Xi T38 904 60 := (show Xi T41 904 60 = Xi T38 904 60 from w2140.x _ _ rfl)
    have w2153 : -1 ≤ Xi T38 904 60 ∧ Xi T38 904 60 ≤ 23 := hHT38.c _ _
    have w2154 : Xi T41 904 69 = Xi T38 904 69 := (show Xi T41 904 69 = Xi T38 904 69 from w2140.x _ _ rfl)
    have w2155 : 0 ≤ Xi T38 904 69 ∧ Xi T38 904 69 ≤ 2600 := hHT38.c _ _
    have w2156 : Xi T41 904 70 = Xi T38 904 70 := (show Xi T41 904 70 = Xi T38 904 70 from w2140.x _ _ rfl)
    have w2157 : 0 ≤ Xi T38 904 70 ∧ Xi T38 904 70 ≤ 20 := hHT38.c _ _
    have w2158 : Xi T41 904 71 = Xi T38 904 71 := (show Xi T41 904 71 = Xi T38 904 71 from w2140.x _ _ rfl)
    have w2159 : 0 ≤ Xi T38 904 71 ∧ Xi T38 904 71 ≤ 2600 := hHT38.c _ _
    have w2160 : Xi T41 904 72 = Xi T38 904 72 := (show Xi T41 904 72 = Xi T38 904 72 from w2140.x _ _ rfl)
    have w2161 : 0 ≤ Xi T38 904 72 ∧ Xi T38 904 72 ≤ 2600 := hHT38.c _ _
    have w2162 : Xi T41 904 73 = Xi T38 904 73 := (show Xi T41 904 73 = Xi T38 904 73 from w2140.x _ _ rfl)
    have w2163 : 0 ≤ Xi T38 904 73 ∧ Xi T38 904 73 ≤ 5 := hHT38.c _ _
    have w2164 : Xi T41 904 74 = Xi T38 904 74 := (show Xi T41 904 74 = Xi T38 904 74 from w2140.x _ _ rfl)
    have w2165 : 0 ≤ Xi T38 904 74 ∧ Xi T38 904 74 ≤ 2600 := hHT38.c _ _
    have w2166 : Xi T41 904 78 = Xi T38 904 78 := (show Xi T41 904 78 = Xi T38 904 78 from w2140.x _ _ rfl)
    have w2167 : -2 ≤ Xi T38 904 78 ∧ Xi T38 904 78 ≤ 5010 := hHT38.c _ _
    have w2168 : Xi T41 904 81 = Xi T38 904 81 := (show Xi T41 904 81 = Xi T38 904 81 from w2140.x _ _ rfl)
    have w2169 : 0 ≤ Xi T38 904 81 ∧ Xi T38 904 81 ≤ 5010 := hHT38.c _ _
    have w2170 : Xi T41 904 94 = Xi T38 904 94 := (show Xi T41 904 94 = Xi T38 904 94 from w2140.x _ _ rfl)
    have w2171 : 0 ≤ Xi T38 904 94 ∧ Xi T38 904 94 ≤ 1700 := hHT38.c _ _
    have w2172 : Xi T41 904 98 = Xi T38 904 98 := (show Xi T41 904 98 = Xi T38 904 98 from w2140.x _ _ rfl)
    have w2173 : 0 ≤ Xi T38 904 98 ∧ Xi T38 904 98 ≤ 1700 := hHT38.c _ _
    exact ⟨hHT41, hFT41, rfl, (by assumption), (by first | exact fun q => by assumption | assumption | exact fun q => (RDT_FR hHT38 w2140 rfl rfl rfl (by assumption : RDT T38)))⟩
set_option maxRecDepth 100000 in
set_option maxHeartbeats 8000000 in
theorem c327_mo_asked {S : sS} (hH : HI S) (n : Nat) (dd : Nat) (first : Int) (hfirst : 0 ≤ first ∧ first ≤ 5001) (hT : TK S n) (hv : RNV S n) (hM : LXM S) (hB : ABV S) (hC : DCM S) (hK : TXK S n) (hX : TXM S) (hq : SNQ S n) (hap : AP9 S n) (h94 : Xi S 904 94 ≤ 1668) (hRD : RDT S) (hPF : PF S) (hdt : Xi S 904 70 = 20 → first ≤ dd ∧ dd < n ∧ Xi S 907 dd = 46) (d : Nat) : ∀  (T42 : sS) (_ : HI T42) (_ : FR md_mo_asked S T42), (Xi T42 904 117 = Xi S 904 117) → (Xi T42 904 69 = Xi S 904 69) → (Xi T42 904 70 = Xi S 904 70) → (Xi T42 904 71 = Xi S 904 71) → (Xi T42 904 72 = Xi S 904 72) → (Xi T42 904 73 = Xi S 904 73) → (Xi T42 904 74 = Xi S 904 74) → (Xi T42 904 78 = Xi S 904 78) → (Xi T42 904 81 = Xi S 904 81) → (Xi T42 904 94 = Xi S 904 94) → (Xi T42 904 98 = Xi S 904 98) → (Xi T42 904 60 = Xi S 904 60) → (Xi T42 904 106 = 0) → (Xi T42 904 108 = 0) → (Xi T42 904 115 = -1) → (Xi T42 904 116 = -1) → (SNQ T42 n) → (RDT T42) → (KQL T42 S (Xi S 904 117)) → (Xi S 904 70 = 17) → Rl lay0 (d + 12) m_mo_asked 327 [(0, .ref 904)] [] T42 (Q_mo_asked S n dd first) := by
  have C358 := c358_mo_asked hH n dd first hfirst hT hv hM hB hC hK hX hq hap h94 hRD hPF hdt d 
  have hF : FR md_mo_asked S S := FR.rf
  have w1 : 0 ≤ Xi S 904 106 ∧ Xi S 904 106 ≤ 9 := hH.c _ _
  have w2 : 0 ≤ Xi S 904 108 ∧ Xi S 904 108 ≤ 2600 := hH.c _ _
  have w3 : -1 ≤ Xi S 904 115 ∧ Xi S 904 115 ≤ 15 := hH.c _ _
  have w4 : -1 ≤ Xi S 904 116 ∧ Xi S 904 116 ≤ 15 := hH.c _ _
  have w5 : 0 ≤ Xi S 904 117 ∧ Xi S 904 117 ≤ 480 := hH.c _ _
  have w6 : 0 ≤ Xi S 904 23 ∧ Xi S 904 23 ≤ 24 := hH.c _ _
  have w7 : 0 ≤ Xi S 904 41 ∧ Xi S 904 41 ≤ 6 := hH.c _ _
  have w8 : -1 ≤ Xi S 904 60 ∧ Xi S 904 60 ≤ 23 := hH.c _ _
  have w9 : 0 ≤ Xi S 904 69 ∧ Xi S 904 69 ≤ 2600 := hH.c _ _
  have w10 : 0 ≤ Xi S 904 70 ∧ Xi S 904 70 ≤ 20 := hH.c _ _
  have w11 : 0 ≤ Xi S 904 71 ∧ Xi S 904 71 ≤ 2600 := hH.c _ _
  have w12 : 0 ≤ Xi S 904 72 ∧ Xi S 904 72 ≤ 2600 := hH.c _ _
  have w13 : 0 ≤ Xi S 904 73 ∧ Xi S 904 73 ≤ 5 := hH.c _ _
  have w14 : 0 ≤ Xi S 904 74 ∧ Xi S 904 74 ≤ 2600 := hH.c _ _
  have w15 : -2 ≤ Xi S 904 78 ∧ Xi S 904 78 ≤ 5010 := hH.c _ _
  have w16 : 0 ≤ Xi S 904 81 ∧ Xi S 904 81 ≤ 5010 := hH.c _ _
  have w17 : 0 ≤ Xi S 904 94 ∧ Xi S 904 94 ≤ 1700 := hH.c _ _
  have w18 : 0 ≤ Xi S 904 98 ∧ Xi S 904 98 ≤ 1700 := hH.c _ _
  have w19 : 0 ≤ Xi S 951 0 ∧ Xi S 951 0 ≤ 5010 := hH.c _ _
  have w20 : 0 ≤ Xi S 951 1 ∧ Xi S 951 1 ≤ 5010 := hH.c _ _
  have hn5 := hT.1
  have hc69 : 0 ≤ Xi S 904 69 ∧ Xi S 904 69 ≤ 2600 := hH.c _ _
  have hc70 : 0 ≤ Xi S 904 70 ∧ Xi S 904 70 ≤ 20 := hH.c _ _
  have hc23 : 0 ≤ Xi S 904 23 ∧ Xi S 904 23 ≤ 24 := hH.c _ _
  have hrf : ∀ r : Int, 0 ≤ r → r < Xi S 904 69 → Xi S 950 r.toNat + Xi S 951 r.toNat ≤ n ∧ 1 ≤ Xi S 951 r.toNat := fun r a b => hv r.toNat (by omega)
  have hq0 : KQL S S (Xi S 904 117) := KQL.rf
  intro T42 hHT42 hFT42 w2174 w2175 w2176 w2177 w2178 w2179 w2180 w2181 w2182 w2183 w2184 w2185 w2186 w2187 w2188 w2189 q20 r20 K20 w2190
  have w2191 : Xi T42 904 102 = Xi S 904 102 := hFT42.x _ _ rfl
  have w2192 : Xi T42 904 103 = Xi S 904 103 := hFT42.x _ _ rfl
  have w2193 : Xi T42 904 16 = Xi S 904 16 := hFT42.x _ _ rfl
  have w2194 : Xi T42 904 18 = Xi S 904 18 := hFT42.x _ _ rfl
  have w2195 : Xi T42 904 19 = Xi S 904 19 := hFT42.x _ _ rfl
  have w2196 : Xi T42 904 23 = Xi S 904 23 := hFT42.x _ _ rfl
  have w2197 : Xi T42 904 30 = Xi S 904 30 := hFT42.x _ _ rfl
  have w2198 : Xi T42 904 41 = Xi S 904 41 := hFT42.x _ _ rfl
  have w2199 : Xi T42 904 47 = Xi S 904 47 := hFT42.x _ _ rfl
  have w2200 : Xi T42 904 49 = Xi S 904 49 := hFT42.x _ _ rfl
  have w2201 : Xi T42 904 55 = Xi S 904 55 := hFT42.x _ _ rfl
  have w2202 : Xi T42 904 60 = Xi S 904 60 := hFT42.x _ _ rfl
  have w2203 : Xi T42 904 69 = Xi S 904 69 := hFT42.x _ _ rfl
  have w2204 : Xi T42 904 70 = Xi S 904 70 := hFT42.x _ _ rfl
  have w2205 : Xi T42 904 71 = Xi S 904 71 := hFT42.x _ _ rfl
  have w2206 : Xi T42 904 72 = Xi S 904 72 := hFT42.x _ _ rfl
  have w2207 : Xi T42 904 73 = Xi S 904 73 := hFT42.x _ _ rfl
  have w2208 : Xi T42 904 74 = Xi S 904 74 := hFT42.x _ _ rfl
  have w2209 : Xi T42 904 78 = Xi S 904 78 := hFT42.x _ _ rfl
  have w2210 : Xi T42 904 81 = Xi S 904 81 := hFT42.x _ _ rfl
  have w2211 : Xi T42 904 94 = Xi S 904 94 := hFT42.x _ _ rfl
  have w2212 : Xi T42 904 98 = Xi S 904 98 := hFT42.x _ _ rfl
  have w2213 : Xi T42 951 0 = Xi S 951 0 := hFT42.x _ _ rfl
  have w2214 : Xi T42 951 1 = Xi S 951 1 := hFT42.x _ _ rfl
  have w2215 : 0 ≤ Xi T42 904 106 ∧ Xi T42 904 106 ≤ 9 := hHT42.c _ _
  have w2216 : 0 ≤ Xi T42 904 108 ∧ Xi T42 904 108 ≤ 2600 := hHT42.c _ _
  have w2217 : -1 ≤ Xi T42 904 115 ∧ Xi T42 904 115 ≤ 15 := hHT42.c _ _
  have w2218 : -1 ≤ Xi T42 904 116 ∧ Xi T42 904 116 ≤ 15 := hHT42.c _ _
  have w2219 : 0 ≤ Xi T42 904 117 ∧ Xi T42 904 117 ≤ 480 := hHT42.c _ _
  have w2220 : -1 ≤ Xi T42 904 60 ∧ Xi T42 904 60 ≤ 23 := hHT42.c _ _
  have w2221 : 0 ≤ Xi T42 904 69 ∧ Xi T42 904 69 ≤ 2600 := hHT42.c _ _
  have w2222 : 0 ≤ Xi T42 904 70 ∧ Xi T42 904 70 ≤ 20 := hHT42.c _ _
  have w2223 : 0 ≤ Xi T42 904 71 ∧ Xi T42 904 71 ≤ 2600 := hHT42.c _ _
  have w2224 : 0 ≤ Xi T42 904 72 ∧ Xi T42 904 72 ≤ 2600 := hHT42.c _ _
  have w2225 : 0 ≤ Xi T42 904 73 ∧ Xi T42 904 73 ≤ 5 := hHT42.c _ _
  have w2226 : 0 ≤ Xi T42 904 74 ∧ Xi T42 904 74 ≤ 2600 := hHT42.c _ _
  have w2227 : -2 ≤ Xi T42 904 78 ∧ Xi T42 904 78 ≤ 5010 := hHT42.c _ _
  have w2228 : 0 ≤ Xi T42 904 81 ∧ Xi T42 904 81 ≤ 5010 := hHT42.c _ _
  have w2229 : 0 ≤ Xi T42 904 94 ∧ Xi T42 904 94 ≤ 1700 := hHT42.c _ _
  have w2230 : 0 ≤ Xi T42 904 98 ∧ Xi T42 904 98 ≤ 1700 := hHT42.c _ _
  refine l_aload_n rfl rfl ?_
  have s327 := q20.2.2.2.2.2.2.2.2.2 (by omega)
  have z327_0 : Xi S 950 0 + Xi S 951 0 ≤ n := (hv 0 (by omega)).1
  have z327_1 : Xi S 950 1 + Xi S 951 1 ≤ n := (hv 1 (by omega)).1
  have z327_2 : Xi S 950 2 + Xi S 951 2 ≤ n := (hv 2 (by omega)).1
  refine l_iconst rfl ?_
  have w2231 : 0 ≤ Xi T42 904 106 ∧ Xi T42 904 106 ≤ 9 := hHT42.c _ _
  have w2232 : 0 ≤ Xi T42 904 108 ∧ Xi T42 904 108 ≤ 2600 := hHT42.c _ _
  have w2233 : -1 ≤ Xi T42 904 115 ∧ Xi T42 904 115 ≤ 15 := hHT42.c _ _
  have w2234 : -1 ≤ Xi T42 904 116 ∧ Xi T42 904 116 ≤ 15 := hHT42.c _ _
  have w2235 : 0 ≤ Xi T42 904 117 ∧ Xi T42 904 117 ≤ 480 := hHT42.c _ _
  have w2236 : 0 ≤ Xi T42 904 142 ∧ Xi T42 904 142 ≤ 4 := hHT42.c _ _
  have w2237 : 0 ≤ Xi T42 904 16 ∧ Xi T42 904 16 ≤ 16 := hHT42.c _ _
  have w2238 : -1 ≤ Xi T42 904 60 ∧ Xi T42 904 60 ≤ 23 := hHT42.c _ _
  have w2239 : 0 ≤ Xi T42 904 69 ∧ Xi T42 904 69 ≤ 2600 := hHT42.c _ _
  have w2240 : 0 ≤ Xi T42 904 70 ∧ Xi T42 904 70 ≤ 20 := hHT42.c _ _
  have w2241 : 0 ≤ Xi T42 904 71 ∧ Xi T42 904 71 ≤ 2600 := hHT42.c _ _
  have w2242 : 0 ≤ Xi T42 904 72 ∧ Xi T42 904 72 ≤ 2600 := hHT42.c _ _
  have w2243 : 0 ≤ Xi T42 904 73 ∧ Xi T42 904 73 ≤ 5 := hHT42.c _ _
  have w2244 : 0 ≤ Xi T42 904 74 ∧ Xi T42 904 74 ≤ 2600 := hHT42.c _ _
  have w2245 : -2 ≤ Xi T42 904 78 ∧ Xi T42 904 78 ≤ 5010 := hHT42.c _ _
  have w2246 : 0 ≤ Xi T42 904 81 ∧ Xi T42 904 81 ≤ 5010 := hHT42.c _ _
  have w2247 : 0 ≤ Xi T42 904 94 ∧ Xi T42 904 94 ≤ 1700 := hHT42.c _ _
  have w2248 : 0 ≤ Xi T42 904 98 ∧ Xi T42 904 98 ≤ 1700 := hHT42.c _ _
  refine l_callV rfl rfl rfl (t_mo_kindOfRun__2 hHT42 n 0 ⟨by omega, by omega⟩ (by first | assumption | exact (TK_FR hFT42 rfl (by assumption : TK S _))) (by first | assumption | exact (RNV_FR hFT42 rfl (by assumption : RNV S _))) (by first | assumption | omega) (by first | assumption | exact (LXM_FR hFT42 rfl (by assumption : LXM S))) _) ?_
  rintro _ T43 ⟨hHT43, w2254, z2253, rfl, w2253, w2249, w2250, w2251, w2252⟩
  have hFT43 : FR md_mo_asked S T43 := FR.tr hFT42 w2254 rfl
  show Rl _ _ _ _ _ [iv z2253] _ _
  have r329 : z2253 = rnR S 0 0 := (by assumption : z2253 = rnR T42 _ _).trans (rnR_FR hFT42 rfl rfl)
  refine l_pop rfl rfl ?_
  refine l_aload_n rfl rfl ?_
  refine l_aload_n rfl rfl ?_
  refine l_iconst rfl ?_
  have w2255 : 0 ≤ Xi T43 904 106 ∧ Xi T43 904 106 ≤ 9 := hHT43.c _ _
  have w2256 : Xi T43 904 108 = Xi T42 904 108 := (show Xi T43 904 108 = Xi T42 904 108 from w2254.x _ _ rfl)
  have w2257 : 0 ≤ Xi T42 904 108 ∧ Xi T42 904 108 ≤ 2600 := hHT42.c _ _
  have w2258 : Xi T43 904 109 = Xi T42 904 109 := (show Xi T43 904 109 = Xi T42 904 109 from w2254.x _ _ rfl)
  have w2259 : Xi T43 904 115 = Xi T42 904 115 := (show Xi T43 904 115 = Xi T42 904 115 from w2254.x _ _ rfl)
  have w2260 : -1 ≤ Xi T42 904 115 ∧ Xi T42 904 115 ≤ 15 := hHT42.c _ _
  have w2261 : Xi T43 904 116 = Xi T42 904 116 := (show Xi T43 904 116 = Xi T42 904 116 from w2254.x _ _ rfl)
  have w2262 : -1 ≤ Xi T42 904 116 ∧ Xi T42 904 116 ≤ 15 := hHT42.c _ _
  have w2263 : Xi T43 904 117 = Xi T42 904 117 := (show Xi T43 904 117 = Xi T42 904 117 from w2254.x _ _ rfl)
  have w2264 : 0 ≤ Xi T42 904 117 ∧ Xi T42 904 117 ≤ 480 := hHT42.c _ _
  have w2265 : Xi T43 904 142 = Xi T42 904 142 := (show Xi T43 904 142 = Xi T42 904 142 from w2254.x _ _ rfl)
  have w2266 : 0 ≤ Xi T42 904 142 ∧ Xi T42 904 142 ≤ 4 := hHT42.c _ _
  have w2267 : Xi T43 904 60 = Xi T42 904 60 := (show Xi T43 904 60 = Xi T42 904 60 from w2254.x _ _ rfl)
  have w2268 : -1 ≤ Xi T42 904 60 ∧ Xi T42 904 60 ≤ 23 := hHT42.c _ _
  have w2269 : Xi T43 904 69 = Xi T42 904 69 := (show Xi T43 904 69 = Xi T42 904 69 from w2254.x _ _ rfl)
  have w2270 : 0 ≤ Xi T42 904 69 ∧ Xi T42 904 69 ≤ 2600 := hHT42.c _ _
  have w2271 : Xi T43 904 70 = Xi T42 904 70 := (show Xi T43 904 70 = Xi T42 904 70 from w2254.x _ _ rfl)
  have w2272 : 0 ≤ Xi T42 904 70 ∧ Xi T42 904 70 ≤ 20 := hHT42.c _ _
  have w2273 : Xi T43 904 71 = Xi T42 904 71 := (show Xi T43 904 71 = Xi T42 904 71 from w2254.x _ _ rfl)
  have w2274 : 0 ≤ Xi T42 904 71 ∧ Xi T42 904 71 ≤ 2600 := hHT42.c _ _
  have w2275 : Xi T43 904 72 = Xi T42 904 72 := (show Xi T43 904 72 = Xi T42 904 72 from w2254.x _ _ rfl)
  have w2276 : 0 ≤ Xi T42 904 72 ∧ Xi T42 904 72 ≤ 2600 := hHT42.c _ _
  have w2277 : Xi T43 904 73 = Xi T42 904 73 := (show Xi T43 904 73 = Xi T42 904 73 from w2254.x _ _ rfl)
  have w2278 : 0 ≤ Xi T42 904 73 ∧ Xi T42 904 73 ≤ 5 := hHT42.c _ _
  have w2279 : Xi T43 904 74 = Xi T42 904 74 := (show Xi T43 904 74 = Xi T42 904 74 from w2254.x _ _ rfl)
  have w2280 : 0 ≤ Xi T42 904 74 ∧ Xi T42 904 74 ≤ 2600 := hHT42.c _ _
  have w2281 : Xi T43 904 78 = Xi T42 904 78 := (show Xi T43 904 78 = Xi T42 904 78 from w2254.x _ _ rfl)
  have w2282 : -2 ≤ Xi T42 904 78 ∧ Xi T42 904 78 ≤ 5010 := hHT42.c _ _
  have w2283 : Xi T43 904 81 = Xi T42 904 81 := (show Xi T43 904 81 = Xi T42 904 81 from w2254.x _ _ rfl)
  have w2284 : 0 ≤ Xi T42 904 81 ∧ Xi T42 904 81 ≤ 5010 := hHT42.c _ _
  have w2285 : Xi T43 904 94 = Xi T42 904 94 := (show Xi T43 904 94 = Xi T42 904 94 from w2254.x _ _ rfl)
  have w2286 : 0 ≤ Xi T42 904 94 ∧ Xi T42 904 94 ≤ 1700 := hHT42.c _ _
  have w2287 : Xi T43 904 98 = Xi T42 904 98 := (show Xi T43 904 98 = Xi T42 904 98 from w2254.x _ _ rfl)
  have w2288 : 0 ≤ Xi T42 904 98 ∧ Xi T42 904 98 ≤ 1700 := hHT42.c _ _
  refine l_callV rfl rfl rfl (t_mo_typeOrPlural__2 hHT43 n 1 ⟨by omega, by omega⟩ (by first | assumption | exact (TK_FR hFT43 rfl (by assumption : TK S _))) (by first | assumption | exact (RNV_FR hFT43 rfl (by assumption : RNV S _))) (by first | assumption | omega) (by first | assumption | exact (LXM_FR hFT43 rfl (by assumption : LXM S))) _) ?_
  rintro _ _ ⟨rfl, z2290, rfl, w2290, w2289⟩
  show Rl _ _ _ _ _ [iv z2290, .ref 904] _ _
  have r336 : z2290 = r2R S 1 2 3 := (by assumption : z2290 = r2R T43 _ _ _).trans (r2R_FR hFT43 rfl rfl)
  refine l_iconst rfl ?_
  refine l_icmp_eq rfl rfl (by unfold rg; omega) (by unfold rg; omega) (fun w2291 => ?_) (fun w2292 => ?_)
  · refine l_iconst rfl ?_
    refine l_iconst rfl ?_
    refine l_aload_n rfl rfl ?_
    refine l_gfr rfl rfl rfl rfl rfl (hHT43.r 904 67 950 rfl) ?_
    refine l_iconst rfl ?_
    refine l_iaload (n := 2600) rfl rfl (by omega) (by omega) (by unfold rg; omega) ?_
    have w2293 : 0 ≤ (Xi T43 950 ((1 : Int).toNat)) ∧ (Xi T43 950 ((1 : Int).toNat)) ≤ 5010 := hHT43.c _ _
    have w2294 : (Xi T43 950 ((1 : Int).toNat)) = Xi T43 950 1 := rfl
    have e354 : (Xi T43 950 ((1 : Int).toNat)) = Xi S 950 1 := by first | rfl | exact (hFT43.cx 950 rfl _).1
    have w2295 : 0 ≤ Xi T43 904 106 ∧ Xi T43 904 106 ≤ 9 := hHT43.c _ _
    have w2296 : Xi T43 904 108 = Xi T42 904 108 := (show Xi T43 904 108 = Xi T42 904 108 from w2254.x _ _ rfl)
    have w2297 : 0 ≤ Xi T42 904 108 ∧ Xi T42 904 108 ≤ 2600 := hHT42.c _ _
    have w2298 : Xi T43 904 109 = Xi T42 904 109 := (show Xi T43 904 109 = Xi T42 904 109 from w2254.x _ _ rfl)
    have w2299 : Xi T43 904 115 = Xi T42 904 115 := (show Xi T43 904 115 = Xi T42 904 115 from w2254.x _ _ rfl)
    have w2300 : -1 ≤ Xi T42 904 115 ∧ Xi T42 904 115 ≤ 15 := hHT42.c _ _
    have w2301 : Xi T43 904 116 = Xi T42 904 116 := (show Xi T43 904 116 = Xi T42 904 116 from w2254.x _ _ rfl)
    have w2302 : -1 ≤ Xi T42 904 116 ∧ Xi T42 904 116 ≤ 15 := hHT42.c _ _
    have w2303 : Xi T43 904 117 = Xi T42 904 117 := (show Xi T43 904 117 = Xi T42 904 117 from w2254.x _ _ rfl)
    have w2304 : 0 ≤ Xi T42 904 117 ∧ Xi T42 904 117 ≤ 480 := hHT42.c _ _
    have w2305 : Xi T43 904 142 = Xi T42 904 142 := (show Xi T43 904 142 = Xi T42 904 142 from w2254.x _ _ rfl)
    have w2306 : 0 ≤ Xi T42 904 142 ∧ Xi T42 904 142 ≤ 4 := hHT42.c _ _
    have w2307 : Xi T43 904 60 = Xi T42 904 60 := (show Xi T43 904 60 = Xi T42 904 60 from w2254.x _ _ rfl)
    have w2308 : -1 ≤ Xi T42 904 60 ∧ Xi T42 904 60 ≤ 23 := hHT42.c _ _
    have w2309 : Xi T43 904 69 = Xi T42 904 69 := (show Xi T43 904 69 = Xi T42 904 69 from w2254.x _ _ rfl)
    have w2310 : 0 ≤ Xi T42 904 69 ∧ Xi T42 904 69 ≤ 2600 := hHT42.c _ _
    have w2311 : Xi T43 904 70 = Xi T42 904 70 := (show Xi T43 904 70 = Xi T42 904 70 from w2254.x _ _ rfl)
    have w2312 : 0 ≤ Xi T42 904 70 ∧ Xi T42 904 70 ≤ 20 := hHT42.c _ _
    have w2313 : Xi T43 904 71 = Xi T42 904 71 := (show Xi T43 904 71 = Xi T42 904 71 from w2254.x _ _ rfl)
    have w2314 : 0 ≤ Xi T42 904 71 ∧ Xi T42 904 71 ≤ 2600 := hHT42.c _ _
    have w2315 : Xi T43 904 72 = Xi T42 904 72 := (show Xi T43 904 72 = Xi T42 904 72 from w2254.x _ _ rfl)
    have w2316 : 0 ≤ Xi T42 904 72 ∧ Xi T42 904 72 ≤ 2600 := hHT42.c _ _
    have w2317 : Xi T43 904 73 = Xi T42 904 73 := (show Xi T43 904 73 = Xi T42 904 73 from w2254.x _ _ rfl)
    have w2318 : 0 ≤ Xi T42 904 73 ∧ Xi T42 904 73 ≤ 5 := hHT42.c _ _
    have w2319 : Xi T43 904 74 = Xi T42 904 74 := (show Xi T43 904 74 = Xi T42 904 74 from w2254.x _ _ rfl)
    have w2320 : 0 ≤ Xi T42 904 74 ∧ Xi T42 904 74 ≤ 2600 := hHT42.c _ _
    have w2321 : Xi T43 904 78 = Xi T42 904 78 := (show Xi T43 904 78 = Xi T42 904 78 from w2254.x _ _ rfl)
    have w2322 : -2 ≤ Xi T42 904 78 ∧ Xi T42 904 78 ≤ 5010 := hHT42.c _ _
    have w2323 : Xi T43 904 81 = Xi T42 904 81 := (show Xi T43 904 81 = Xi T42 904 81 from w2254.x _ _ rfl)
    have w2324 : 0 ≤ Xi T42 904 81 ∧ Xi T42 904 81 ≤ 5010 := hHT42.c _ _
    have w2325 : Xi T43 904 94 = Xi T42 904 94 := (show Xi T43 904 94 = Xi T42 904 94 from w2254.x _ _ rfl)
    have w2326 : 0 ≤ Xi T42 904 94 ∧ Xi T42 904 94 ≤ 1700 := hHT42.c _ _
    have w2327 : Xi T43 904 98 = Xi T42 904 98 := (show Xi T43 904 98 = Xi T42 904 98 from w2254.x _ _ rfl)
    have w2328 : 0 ≤ Xi T42 904 98 ∧ Xi T42 904 98 ≤ 1700 := hHT42.c _ _
    refine l_callV rfl rfl rfl (t_mo_need hHT43 0 4 (Xi T43 950 ((1 : Int).toNat)) ⟨by omega, by omega⟩ ⟨by omega, by omega⟩ ⟨by omega, by omega⟩ _) ?_
    rintro _ T44 ⟨hHT44, w2332, rfl, w2329, w2330⟩
    have hFT44 : FR md_mo_asked S T44 := FR.tr hFT43 w2332 rfl
    show Rl _ _ _ _ _ [] _ _
    have w2333 : 0 ≤ Xi T44 904 106 ∧ Xi T44 904 106 ≤ 9 := hHT44.c _ _
    have w2334 : Xi T44 904 108 = Xi T42 904 108 := (show Xi T44 904 108 = Xi T43 904 108 from w2332.x _ _ rfl).trans ((show Xi T43 904 108 = Xi T42 904 108 from w2254.x _ _ rfl))
    have w2335 : 0 ≤ Xi T42 904 108 ∧ Xi T42 904 108 ≤ 2600 := hHT42.c _ _
    have w2336 : Xi T44 904 109 = Xi T42 904 109 := (show Xi T44 904 109 = Xi T43 904 109 from w2332.x _ _ rfl).trans ((show Xi T43 904 109 = Xi T42 904 109 from w2254.x _ _ rfl))
    have w2337 : Xi T44 904 115 = Xi T42 904 115 := (show Xi T44 904 115 = Xi T43 904 115 from w2332.x _ _ rfl).trans ((show Xi T43 904 115 = Xi T42 904 115 from w2254.x _ _ rfl))
    have w2338 : -1 ≤ Xi T42 904 115 ∧ Xi T42 904 115 ≤ 15 := hHT42.c _ _
    have w2339 : Xi T44 904 116 = Xi T42 904 116 := (show Xi T44 904 116 = Xi T43 904 116 from w2332.x _ _ rfl).trans ((show Xi T43 904 116 = Xi T42 904 116 from w2254.x _ _ rfl))
    have w2340 : -1 ≤ Xi T42 904 116 ∧ Xi T42 904 116 ≤ 15 := hHT42.c _ _
    have w2341 : Xi T44 904 117 = Xi T42 904 117 := (show Xi T44 904 117 = Xi T43 904 117 from w2332.x _ _ rfl).trans ((show Xi T43 904 117 = Xi T42 904 117 from w2254.x _ _ rfl))
    have w2342 : 0 ≤ Xi T42 904 117 ∧ Xi T42 904 117 ≤ 480 := hHT42.c _ _
    have w2343 : Xi T44 904 142 = Xi T42 904 142 := (show Xi T44 904 142 = Xi T43 904 142 from w2332.x _ _ rfl).trans ((show Xi T43 904 142 = Xi T42 904 142 from w2254.x _ _ rfl))
    have w2344 : 0 ≤ Xi T42 904 142 ∧ Xi T42 904 142 ≤ 4 := hHT42.c _ _
    have w2345 : Xi T44 904 60 = Xi T42 904 60 := (show Xi T44 904 60 = Xi T43 904 60 from w2332.x _ _ rfl).trans ((show Xi T43 904 60 = Xi T42 904 60 from w2254.x _ _ rfl))
    have w2346 : -1 ≤ Xi T42 904 60 ∧ Xi T42 904 60 ≤ 23 := hHT42.c _ _
    have w2347 : Xi T44 904 69 = Xi T42 904 69 := (show Xi T44 904 69 = Xi T43 904 69 from w2332.x _ _ rfl).trans ((show Xi T43 904 69 = Xi T42 904 69 from w2254.x _ _ rfl))
    have w2348 : 0 ≤ Xi T42 904 69 ∧ Xi T42 904 69 ≤ 2600 := hHT42.c _ _
    have w2349 : Xi T44 904 70 = Xi T42 904 70 := (show Xi T44 904 70 = Xi T43 904 70 from w2332.x _ _ rfl).trans ((show Xi T43 904 70 = Xi T42 904 70 from w2254.x _ _ rfl))
    have w2350 : 0 ≤ Xi T42 904 70 ∧ Xi T42 904 70 ≤ 20 := hHT42.c _ _
    have w2351 : Xi T44 904 71 = Xi T42 904 71 := (show Xi T44 904 71 = Xi T43 904 71 from w2332.x _ _ rfl).trans ((show Xi T43 904 71 = Xi T42 904 71 from w2254.x _ _ rfl))
    have w2352 : 0 ≤ Xi T42 904 71 ∧ Xi T42 904 71 ≤ 2600 := hHT42.c _ _
    have w2353 : Xi T44 904 72 = Xi T42 904 72 := (show Xi T44 904 72 = Xi T43 904 72 from w2332.x _ _ rfl).trans ((show Xi T43 904 72 = Xi T42 904 72 from w2254.x _ _ rfl))
    have w2354 : 0 ≤ Xi T42 904 72 ∧ Xi T42 904 72 ≤ 2600 := hHT42.c _ _
    have w2355 : Xi T44 904 73 = Xi T42 904 73 := (show Xi T44 904 73 = Xi T43 904 73 from w2332.x _ _ rfl).trans ((show Xi T43 904 73 = Xi T42 904 73 from w2254.x _ _ rfl))
    have w2356 : 0 ≤ Xi T42 904 73 ∧ Xi T42 904 73 ≤ 5 := hHT42.c _ _
    have w2357 : Xi T44 904 74 = Xi T42 904 74 := (show Xi T44 904 74 = Xi T43 904 74 from w2332.x _ _ rfl).trans ((show Xi T43 904 74 = Xi T42 904 74 from w2254.x _ _ rfl))
    have w2358 : 0 ≤ Xi T42 904 74 ∧ Xi T42 904 74 ≤ 2600 := hHT42.c _ _
    have w2359 : Xi T44 904 78 = Xi T42 904 78 := (show Xi T44 904 78 = Xi T43 904 78 from w2332.x _ _ rfl).trans ((show Xi T43 904 78 = Xi T42 904 78 from w2254.x _ _ rfl))
    have w2360 : -2 ≤ Xi T42 904 78 ∧ Xi T42 904 78 ≤ 5010 := hHT42.c _ _
    have w2361 : Xi T44 904 81 = Xi T42 904 81 := (show Xi T44 904 81 = Xi T43 904 81 from w2332.x _ _ rfl).trans ((show Xi T43 904 81 = Xi T42 904 81 from w2254.x _ _ rfl))
    have w2362 : 0 ≤ Xi T42 904 81 ∧ Xi T42 904 81 ≤ 5010 := hHT42.c _ _
    have w2363 : Xi T44 904 94 = Xi T42 904 94 := (show Xi T44 904 94 = Xi T43 904 94 from w2332.x _ _ rfl).trans ((show Xi T43 904 94 = Xi T42 904 94 from w2254.x _ _ rfl))
    have w2364 : 0 ≤ Xi T42 904 94 ∧ Xi T42 904 94 ≤ 1700 := hHT42.c _ _
    have w2365 : Xi T44 904 98 = Xi T42 904 98 := (show Xi T44 904 98 = Xi T43 904 98 from w2332.x _ _ rfl).trans ((show Xi T43 904 98 = Xi T42 904 98 from w2254.x _ _ rfl))
    have w2366 : 0 ≤ Xi T42 904 98 ∧ Xi T42 904 98 ≤ 1700 := hHT42.c _ _
    exact Rl_weak (C358 T44 hHT44 hFT44  (by omega) (by omega) (by omega) (by omega) (by omega) (by omega) (by omega) (by omega) (by omega) (by omega) (by omega) (by omega) (by first | assumption | exact fun k hk => absurd hk (by omega) | exact (NWV_FR w2332 rfl (NWV_FR w2254 rfl (by assumption : NWV T42)))) (by first | assumption | exact (RDT_FR hHT43 w2332 rfl rfl rfl (RDT_FR hHT42 w2254 rfl rfl rfl (by assumption : RDT T42)))) (by omega) (by omega) (by omega) (fun q => ⟨by omega, by omega⟩)) (And.intro rfl (True.intro))
  · refine l_iconst rfl ?_
    refine l_goto rfl rfl ?_
    refine l_iconst rfl ?_
    refine l_aload_n rfl rfl ?_
    refine l_gfr rfl rfl rfl rfl rfl (hHT43.r 904 67 950 rfl) ?_
    refine l_iconst rfl ?_
    refine l_iaload (n := 2600) rfl rfl (by omega) (by omega) (by unfold rg; omega) ?_
    have w2367 : 0 ≤ (Xi T43 950 ((1 : Int).toNat)) ∧ (Xi T43 950 ((1 : Int).toNat)) ≤ 5010 := hHT43.c _ _
    have w2368 : (Xi T43 950 ((1 : Int).toNat)) = Xi T43 950 1 := rfl
    have e354 : (Xi T43 950 ((1 : Int).toNat)) = Xi S 950 1 := by first | rfl | exact (hFT43.cx 950 rfl _).1
    have w2369 : 0 ≤ Xi T43 904 106 ∧ Xi T43 904 106 ≤ 9 := hHT43.c _ _
    have w2370 : Xi T43 904 108 = Xi T42 904 108 := (show Xi T43 904 108 = Xi T42 904 108 from w2254.x _ _ rfl)
    have w2371 : 0 ≤ Xi T42 904 108 ∧ Xi T42 904 108 ≤ 2600 := hHT42.c _ _
    have w2372 : Xi T43 904 109 = Xi T42 904 109 := (show Xi T43 904 109 = Xi T42 904 109 from w2254.x _ _ rfl)
    have w2373 : Xi T43 904 115 = Xi T42 904 115 := (show Xi T43 904 115 = Xi T42 904 115 from w2254.x _ _ rfl)
    have w2374 : -1 ≤ Xi T42 904 115 ∧ Xi T42 904 115 ≤ 15 := hHT42.c _ _
    have w2375 : Xi T43 904 116 = Xi T42 904 116 := (show Xi T43 904 116 = Xi T42 904 116 from w2254.x _ _ rfl)
    have w2376 : -1 ≤ Xi T42 904 116 ∧ Xi T42 904 116 ≤ 15 := hHT42.c _ _
    have w2377 : Xi T43 904 117 = Xi T42 904 117 := (show Xi T43 904 117 = Xi T42 904 117 from w2254.x _ _ rfl)
    have w2378 : 0 ≤ Xi T42 904 117 ∧ Xi T42 904 117 ≤ 480 := hHT42.c _ _
    have w2379 : Xi T43 904 142 = Xi T42 904 142 := (show Xi T43 904 142 = Xi T42 904 142 from w2254.x _ _ rfl)
    have w2380 : 0 ≤ Xi T42 904 142 ∧ Xi T42 904 142 ≤ 4 := hHT42.c _ _
    have w2381 : Xi T43 904 60 = Xi T42 904 60 := (show Xi T43 904 60 = Xi T42 904 60 from w2254.x _ _ rfl)
    have w2382 : -1 ≤ Xi T42 904 60 ∧ Xi T42 904 60 ≤ 23 := hHT42.c _ _
    have w2383 : Xi T43 904 69 = Xi T42 904 69 := (show Xi T43 904 69 = Xi T42 904 69 from w2254.x _ _ rfl)
    have w2384 : 0 ≤ Xi T42 904 69 ∧ Xi T42 904 69 ≤ 2600 := hHT42.c _ _
    have w2385 : Xi T43 904 70 = Xi T42 904 70 := (show Xi T43 904 70 = Xi T42 904 70 from w2254.x _ _ rfl)
    have w2386 : 0 ≤ Xi T42 904 70 ∧ Xi T42 904 70 ≤ 20 := hHT42.c _ _
    have w2387 : Xi T43 904 71 = Xi T42 904 71 := (show Xi T43 904 71 = Xi T42 904 71 from w2254.x _ _ rfl)
    have w2388 : 0 ≤ Xi T42 904 71 ∧ Xi T42 904 71 ≤ 2600 := hHT42.c _ _
    have w2389 : Xi T43 904 72 = Xi T42 904 72 := (show Xi T43 904 72 = Xi T42 904 72 from w2254.x _ _ rfl)
    have w2390 : 0 ≤ Xi T42 904 72 ∧ Xi T42 904 72 ≤ 2600 := hHT42.c _ _
    have w2391 : Xi T43 904 73 = Xi T42 904 73 := (show Xi T43 904 73 = Xi T42 904 73 from w2254.x _ _ rfl)
    have w2392 : 0 ≤ Xi T42 904 73 ∧ Xi T42 904 73 ≤ 5 := hHT42.c _ _
    have w2393 : Xi T43 904 74 = Xi T42 904 74 := (show Xi T43 904 74 = Xi T42 904 74 from w2254.x _ _ rfl)
    have w2394 : 0 ≤ Xi T42 904 74 ∧ Xi T42 904 74 ≤ 2600 := hHT42.c _ _
    have w2395 : Xi T43 904 78 = Xi T42 904 78 := (show Xi T43 904 78 = Xi T42 904 78 from w2254.x _ _ rfl)
    have w2396 : -2 ≤ Xi T42 904 78 ∧ Xi T42 904 78 ≤ 5010 := hHT42.c _ _
    have w2397 : Xi T43 904 81 = Xi T42 904 81 := (show Xi T43 904 81 = Xi T42 904 81 from w2254.x _ _ rfl)
    have w2398 : 0 ≤ Xi T42 904 81 ∧ Xi T42 904 81 ≤ 5010 := hHT42.c _ _
    have w2399 : Xi T43 904 94 = Xi T42 904 94 := (show Xi T43 904 94 = Xi T42 904 94 from w2254.x _ _ rfl)
    have w2400 : 0 ≤ Xi T42 904 94 ∧ Xi T42 904 94 ≤ 1700 := hHT42.c _ _
    have w2401 : Xi T43 904 98 = Xi T42 904 98 := (show Xi T43 904 98 = Xi T42 904 98 from w2254.x _ _ rfl)
    have w2402 : 0 ≤ Xi T42 904 98 ∧ Xi T42 904 98 ≤ 1700 := hHT42.c _ _
    refine l_callV rfl rfl rfl (t_mo_need hHT43 1 4 (Xi T43 950 ((1 : Int).toNat)) ⟨by omega, by omega⟩ ⟨by omega, by omega⟩ ⟨by omega, by omega⟩ _) ?_
    rintro _ T45 ⟨hHT45, w2406, rfl, w2403, w2404⟩
    have hFT45 : FR md_mo_asked S T45 := FR.tr hFT43 w2406 rfl
    show Rl _ _ _ _ _ [] _ _
    have w2407 : 0 ≤ Xi T45 904 106 ∧ Xi T45 904 106 ≤ 9 := hHT45.c _ _
    have w2408 : Xi T45 904 108 = Xi T42 904 108 := (show Xi T45 904 108 = Xi T43 904 108 from w2406.x _ _ rfl).trans ((show Xi T43 904 108 = Xi T42 904 108 from w2254.x _ _ rfl))
    have w2409 : 0 ≤ Xi T42 904 108 ∧ Xi T42 904 108 ≤ 2600 := hHT42.c _ _
    have w2410 : Xi T45 904 109 = Xi T42 904 109 := (show Xi T45 904 109 = Xi T43 904 109 from w2406.x _ _ rfl).trans ((show Xi T43 904 109 = Xi T42 904 109 from w2254.x _ _ rfl))
    have w2411 : Xi T45 904 115 = Xi T42 904 115 := (show Xi T45 904 115 = Xi T43 904 115 from w2406.x _ _ rfl).trans ((show Xi T43 904 115 = Xi T42 904 115 from w2254.x _ _ rfl))
    have w2412 : -1 ≤ Xi T42 904 115 ∧ Xi T42 904 115 ≤ 15 := hHT42.c _ _
    have w2413 : Xi T45 904 116 = Xi T42 904 116 := (show Xi T45 904 116 = Xi T43 904 116 from w2406.x _ _ rfl).trans ((show Xi T43 904 116 = Xi T42 904 116 from w2254.x _ _ rfl))
    have w2414 : -1 ≤ Xi T42 904 116 ∧ Xi T42 904 116 ≤ 15 := hHT42.c _ _
    have w2415 : Xi T45 904 117 = Xi T42 904 117 := (show Xi T45 904 117 = Xi T43 904 117 from w2406.x _ _ rfl).trans ((show Xi T43 904 117 = Xi T42 904 117 from w2254.x _ _ rfl))
    have w2416 : 0 ≤ Xi T42 904 117 ∧ Xi T42 904 117 ≤ 480 := hHT42.c _ _
    have w2417 : Xi T45 904 142 = Xi T42 904 142 := (show Xi T45 904 142 = Xi T43 904 142 from w2406.x _ _ rfl).trans ((show Xi T43 904 142 = Xi T42 904 142 from w2254.x _ _ rfl))
    have w2418 : 0 ≤ Xi T42 904 142 ∧ Xi T42 904 142 ≤ 4 := hHT42.c _ _
    have w2419 : Xi T45 904 60 = Xi T42 904 60 := (show Xi T45 904 60 = Xi T43 904 60 from w2406.x _ _ rfl).trans ((show Xi T43 904 60 = Xi T42 904 60 from w2254.x _ _ rfl))
    have w2420 : -1 ≤ Xi T42 904 60 ∧ Xi T42 904 60 ≤ 23 := hHT42.c _ _
    have w2421 : Xi T45 904 69 = Xi T42 904 69 := (show Xi T45 904 69 = Xi T43 904 69 from w2406.x _ _ rfl).trans ((show Xi T43 904 69 = Xi T42 904 69 from w2254.x _ _ rfl))
    have w2422 : 0 ≤ Xi T42 904 69 ∧ Xi T42 904 69 ≤ 2600 := hHT42.c _ _
    have w2423 : Xi T45 904 70 = Xi T42 904 70 := (show Xi T45 904 70 = Xi T43 904 70 from w2406.x _ _ rfl).trans ((show Xi T43 904 70 = Xi T42 904 70 from w2254.x _ _ rfl))
    have w2424 : 0 ≤ Xi T42 904 70 ∧ Xi T42 904 70 ≤ 20 := hHT42.c _ _
    have w2425 : Xi T45 904 71 = Xi T42 904 71 := (show Xi T45 904 71 = Xi T43 904 71 from w2406.x _ _ rfl).trans ((show Xi T43 904 71 = Xi T42 904 71 from w2254.x _ _ rfl))
    have w2426 : 0 ≤ Xi T42 904 71 ∧ Xi T42 904 71 ≤ 2600 := hHT42.c _ _
    have w2427 : Xi T45 904 72 = Xi T42 904 72 := (show Xi T45 904 72 = Xi T43 904 72 from w2406.x _ _ rfl).trans ((show Xi T43 904 72 = Xi T42 904 72 from w2254.x _ _ rfl))
    have w2428 : 0 ≤ Xi T42 904 72 ∧ Xi T42 904 72 ≤ 2600 := hHT42.c _ _
    have w2429 : Xi T45 904 73 = Xi T42 904 73 := (show Xi T45 904 73 = Xi T43 904 73 from w2406.x _ _ rfl).trans ((show Xi T43 904 73 = Xi T42 904 73 from w2254.x _ _ rfl))
    have w2430 : 0 ≤ Xi T42 904 73 ∧ Xi T42 904 73 ≤ 5 := hHT42.c _ _
    have w2431 : Xi T45 904 74 = Xi T42 904 74 := (show Xi T45 904 74 = Xi T43 904 74 from w2406.x _ _ rfl).trans ((show Xi T43 904 74 = Xi T42 904 74 from w2254.x _ _ rfl))
    have w2432 : 0 ≤ Xi T42 904 74 ∧ Xi T42 904 74 ≤ 2600 := hHT42.c _ _
    have w2433 : Xi T45 904 78 = Xi T42 904 78 := (show Xi T45 904 78 = Xi T43 904 78 from w2406.x _ _ rfl).trans ((show Xi T43 904 78 = Xi T42 904 78 from w2254.x _ _ rfl))
    have w2434 : -2 ≤ Xi T42 904 78 ∧ Xi T42 904 78 ≤ 5010 := hHT42.c _ _
    have w2435 : Xi T45 904 81 = Xi T42 904 81 := (show Xi T45 904 81 = Xi T43 904 81 from w2406.x _ _ rfl).trans ((show Xi T43 904 81 = Xi T42 904 81 from w2254.x _ _ rfl))
    have w2436 : 0 ≤ Xi T42 904 81 ∧ Xi T42 904 81 ≤ 5010 := hHT42.c _ _
    have w2437 : Xi T45 904 94 = Xi T42 904 94 := (show Xi T45 904 94 = Xi T43 904 94 from w2406.x _ _ rfl).trans ((show Xi T43 904 94 = Xi T42 904 94 from w2254.x _ _ rfl))
    have w2438 : 0 ≤ Xi T42 904 94 ∧ Xi T42 904 94 ≤ 1700 := hHT42.c _ _
    have w2439 : Xi T45 904 98 = Xi T42 904 98 := (show Xi T45 904 98 = Xi T43 904 98 from w2406.x _ _ rfl).trans ((show Xi T43 904 98 = Xi T42 904 98 from w2254.x _ _ rfl))
    have w2440 : 0 ≤ Xi T42 904 98 ∧ Xi T42 904 98 ≤ 1700 := hHT42.c _ _
    exact Rl_weak (C358 T45 hHT45 hFT45  (by omega) (by omega) (by omega) (by omega) (by omega) (by omega) (by omega) (by omega) (by omega) (by omega) (by omega) (by omega) (by first | assumption | exact fun k hk => absurd hk (by omega) | exact (NWV_FR w2406 rfl (NWV_FR w2254 rfl (by assumption : NWV T42)))) (by first | assumption | exact (RDT_FR hHT43 w2406 rfl rfl rfl (RDT_FR hHT42 w2254 rfl rfl rfl (by assumption : RDT T42)))) (by omega) (by omega) (by omega) (fun q => ⟨by omega, by omega⟩)) (And.intro rfl (True.intro))
set_option maxRecDepth 100000 in
set_option maxHeartbeats 8000000 in
theorem c427_mo_asked {S : sS} (hH : HI S) (n : Nat) (dd : Nat) (first : Int) (hfirst : 0 ≤ first ∧ first ≤ 5001) (hT : TK S n) (hv : RNV S n) (hM : LXM S) (hB : ABV S) (hC : DCM S) (hK : TXK S n) (hX : TXM S) (hq : SNQ S n) (hap : AP9 S n) (h94 : Xi S 904 94 ≤ 1668) (hRD : RDT S) (hPF : PF S) (hdt : Xi S 904 70 = 20 → first ≤ dd ∧ dd < n ∧ Xi S 907 dd = 46) (d : Nat) : ∀  (T46 : sS) (_ : HI T46) (_ : FR md_mo_asked S T46), (Xi T46 904 117 = Xi S 904 117) → (Xi T46 904 60 = Xi S 904 60) → (Xi T46 904 69 = Xi S 904 69) → (Xi T46 904 70 = Xi S 904 70) → (Xi T46 904 71 = Xi S 904 71) → (Xi T46 904 72 = Xi S 904 72) → (Xi T46 904 73 = Xi S 904 73) → (Xi T46 904 74 = Xi S 904 74) → (Xi T46 904 78 = Xi S 904 78) → (Xi T46 904 81 = Xi S 904 81) → (Xi T46 904 94 = Xi S 904 94) → (Xi T46 904 98 = Xi S 904 98) → (NWV T46) → (RDT T46) → (Xi S 904 70 = 18) → (3 ≤ Xi S 904 69) → (Xi T46 904 108 ≤ 1) → (Xi T46 904 106 = 0 → rnR S 0 0 ≠ -1 ∧ 1 ≤ Xi T46 904 108) → (Xi T46 904 106 = 0 → Xi S 904 23 < 24 ∧ Xi S 951 1 ≤ 3) → Rl lay0 (d + 12) m_mo_asked 427 [(0, .ref 904)] [] T46 (Q_mo_asked S n dd first) := by
  have hF : FR md_mo_asked S S := FR.rf
  have w1 : 0 ≤ Xi S 904 106 ∧ Xi S 904 106 ≤ 9 := hH.c _ _
  have w2 : 0 ≤ Xi S 904 108 ∧ Xi S 904 108 ≤ 2600 := hH.c _ _
  have w3 : -1 ≤ Xi S 904 115 ∧ Xi S 904 115 ≤ 15 := hH.c _ _
  have w4 : -1 ≤ Xi S 904 116 ∧ Xi S 904 116 ≤ 15 := hH.c _ _
  have w5 : 0 ≤ Xi S 904 117 ∧ Xi S 904 117 ≤ 480 := hH.c _ _
  have w6 : 0 ≤ Xi S 904 23 ∧ Xi S 904 23 ≤ 24 := hH.c _ _
  have w7 : 0 ≤ Xi S 904 41 ∧ Xi S 904 41 ≤ 6 := hH.c _ _
  have w8 : -1 ≤ Xi S 904 60 ∧ Xi S 904 60 ≤ 23 := hH.c _ _
  have w9 : 0 ≤ Xi S 904 69 ∧ Xi S 904 69 ≤ 2600 := hH.c _ _
  have w10 : 0 ≤ Xi S 904 70 ∧ Xi S 904 70 ≤ 20 := hH.c _ _
  have w11 : 0 ≤ Xi S 904 71 ∧ Xi S 904 71 ≤ 2600 := hH.c _ _
  have w12 : 0 ≤ Xi S 904 72 ∧ Xi S 904 72 ≤ 2600 := hH.c _ _
  have w13 : 0 ≤ Xi S 904 73 ∧ Xi S 904 73 ≤ 5 := hH.c _ _
  have w14 : 0 ≤ Xi S 904 74 ∧ Xi S 904 74 ≤ 2600 := hH.c _ _
  have w15 : -2 ≤ Xi S 904 78 ∧ Xi S 904 78 ≤ 5010 := hH.c _ _
  have w16 : 0 ≤ Xi S 904 81 ∧ Xi S 904 81 ≤ 5010 := hH.c _ _
  have w17 : 0 ≤ Xi S 904 94 ∧ Xi S 904 94 ≤ 1700 := hH.c _ _
  have w18 : 0 ≤ Xi S 904 98 ∧ Xi S 904 98 ≤ 1700 := hH.c _ _
  have w19 : 0 ≤ Xi S 951 0 ∧ Xi S 951 0 ≤ 5010 := hH.c _ _
  have w20 : 0 ≤ Xi S 951 1 ∧ Xi S 951 1 ≤ 5010 := hH.c _ _
  have hn5 := hT.1
  have hc69 : 0 ≤ Xi S 904 69 ∧ Xi S 904 69 ≤ 2600 := hH.c _ _
  have hc70 : 0 ≤ Xi S 904 70 ∧ Xi S 904 70 ≤ 20 := hH.c _ _
  have hc23 : 0 ≤ Xi S 904 23 ∧ Xi S 904 23 ≤ 24 := hH.c _ _
  have hrf : ∀ r : Int, 0 ≤ r → r < Xi S 904 69 → Xi S 950 r.toNat + Xi S 951 r.toNat ≤ n ∧ 1 ≤ Xi S 951 r.toNat := fun r a b => hv r.toNat (by omega)
  have hq0 : KQL S S (Xi S 904 117) := KQL.rf
  intro T46 hHT46 hFT46 w2441 w2442 w2443 w2444 w2445 w2446 w2447 w2448 w2449 w2450 w2451 w2452 N427 R427 w2453 w2454 w2455 E427 G427
  have w2456 : Xi T46 904 102 = Xi S 904 102 := hFT46.x _ _ rfl
  have w2457 : Xi T46 904 103 = Xi S 904 103 := hFT46.x _ _ rfl
  have w2458 : Xi T46 904 16 = Xi S 904 16 := hFT46.x _ _ rfl
  have w2459 : Xi T46 904 18 = Xi S 904 18 := hFT46.x _ _ rfl
  have w2460 : Xi T46 904 19 = Xi S 904 19 := hFT46.x _ _ rfl
  have w2461 : Xi T46 904 23 = Xi S 904 23 := hFT46.x _ _ rfl
  have w2462 : Xi T46 904 30 = Xi S 904 30 := hFT46.x _ _ rfl
  have w2463 : Xi T46 904 41 = Xi S 904 41 := hFT46.x _ _ rfl
  have w2464 : Xi T46 904 47 = Xi S 904 47 := hFT46.x _ _ rfl
  have w2465 : Xi T46 904 49 = Xi S 904 49 := hFT46.x _ _ rfl
  have w2466 : Xi T46 904 55 = Xi S 904 55 := hFT46.x _ _ rfl
  have w2467 : Xi T46 904 60 = Xi S 904 60 := hFT46.x _ _ rfl
  have w2468 : Xi T46 904 69 = Xi S 904 69 := hFT46.x _ _ rfl
  have w2469 : Xi T46 904 70 = Xi S 904 70 := hFT46.x _ _ rfl
  have w2470 : Xi T46 904 71 = Xi S 904 71 := hFT46.x _ _ rfl
  have w2471 : Xi T46 904 72 = Xi S 904 72 := hFT46.x _ _ rfl
  have w2472 : Xi T46 904 73 = Xi S 904 73 := hFT46.x _ _ rfl
  have w2473 : Xi T46 904 74 = Xi S 904 74 := hFT46.x _ _ rfl
  have w2474 : Xi T46 904 78 = Xi S 904 78 := hFT46.x _ _ rfl
  have w2475 : Xi T46 904 81 = Xi S 904 81 := hFT46.x _ _ rfl
  have w2476 : Xi T46 904 94 = Xi S 904 94 := hFT46.x _ _ rfl
  have w2477 : Xi T46 904 98 = Xi S 904 98 := hFT46.x _ _ rfl
  have w2478 : Xi T46 951 0 = Xi S 951 0 := hFT46.x _ _ rfl
  have w2479 : Xi T46 951 1 = Xi S 951 1 := hFT46.x _ _ rfl
  have w2480 : 0 ≤ Xi T46 904 106 ∧ Xi T46 904 106 ≤ 9 := hHT46.c _ _
  have w2481 : 0 ≤ Xi T46 904 108 ∧ Xi T46 904 108 ≤ 2600 := hHT46.c _ _
  have w2482 : 0 ≤ Xi T46 904 117 ∧ Xi T46 904 117 ≤ 480 := hHT46.c _ _
  have w2483 : -1 ≤ Xi T46 904 60 ∧ Xi T46 904 60 ≤ 23 := hHT46.c _ _
  have w2484 : 0 ≤ Xi T46 904 69 ∧ Xi T46 904 69 ≤ 2600 := hHT46.c _ _
  have w2485 : 0 ≤ Xi T46 904 70 ∧ Xi T46 904 70 ≤ 20 := hHT46.c _ _
  have w2486 : 0 ≤ Xi T46 904 71 ∧ Xi T46 904 71 ≤ 2600 := hHT46.c _ _
  have w2487 : 0 ≤ Xi T46 904 72 ∧ Xi T46 904 72 ≤ 2600 := hHT46.c _ _
  have w2488 : 0 ≤ Xi T46 904 73 ∧ Xi T46 904 73 ≤ 5 := hHT46.c _ _
  have w2489 : 0 ≤ Xi T46 904 74 ∧ Xi T46 904 74 ≤ 2600 := hHT46.c _ _
  have w2490 : -2 ≤ Xi T46 904 78 ∧ Xi T46 904 78 ≤ 5010 := hHT46.c _ _
  have w2491 : 0 ≤ Xi T46 904 81 ∧ Xi T46 904 81 ≤ 5010 := hHT46.c _ _
  have w2492 : 0 ≤ Xi T46 904 94 ∧ Xi T46 904 94 ≤ 1700 := hHT46.c _ _
  have w2493 : 0 ≤ Xi T46 904 98 ∧ Xi T46 904 98 ≤ 1700 := hHT46.c _ _
  refine l_aload_n rfl rfl ?_
  refine l_iconst rfl ?_
  refine l_aload_n rfl rfl ?_
  refine l_gfi rfl rfl rfl rfl rfl ?_
  refine l_aload_n rfl rfl ?_
  refine l_gfi rfl rfl rfl rfl rfl ?_
  refine l_if_le rfl rfl (by unfold rg; omega) (fun w2494 => ?_) (fun w2495 => ?_)
  · refine l_iconst rfl ?_
    refine l_iadd rfl ?_
    refine l_bipush rfl rfl ?_
    have w2496 : 0 ≤ Xi T46 904 106 ∧ Xi T46 904 106 ≤ 9 := hHT46.c _ _
    have w2497 : 0 ≤ Xi T46 904 108 ∧ Xi T46 904 108 ≤ 2600 := hHT46.c _ _
    have w2498 : -1 ≤ Xi T46 904 115 ∧ Xi T46 904 115 ≤ 15 := hHT46.c _ _
    have w2499 : -1 ≤ Xi T46 904 116 ∧ Xi T46 904 116 ≤ 15 := hHT46.c _ _
    have w2500 : 0 ≤ Xi T46 904 117 ∧ Xi T46 904 117 ≤ 480 := hHT46.c _ _
    have w2501 : 0 ≤ Xi T46 904 142 ∧ Xi T46 904 142 ≤ 4 := hHT46.c _ _
    have w2502 : -1 ≤ Xi T46 904 60 ∧ Xi T46 904 60 ≤ 23 := hHT46.c _ _
    have w2503 : 0 ≤ Xi T46 904 69 ∧ Xi T46 904 69 ≤ 2600 := hHT46.c _ _
    have w2504 : 0 ≤ Xi T46 904 70 ∧ Xi T46 904 70 ≤ 20 := hHT46.c _ _
    have w2505 : 0 ≤ Xi T46 904 71 ∧ Xi T46 904 71 ≤ 2600 := hHT46.c _ _
    have w2506 : 0 ≤ Xi T46 904 72 ∧ Xi T46 904 72 ≤ 2600 := hHT46.c _ _
    have w2507 : 0 ≤ Xi T46 904 73 ∧ Xi T46 904 73 ≤ 5 := hHT46.c _ _
    have w2508 : 0 ≤ Xi T46 904 74 ∧ Xi T46 904 74 ≤ 2600 := hHT46.c _ _
    have w2509 : -2 ≤ Xi T46 904 78 ∧ Xi T46 904 78 ≤ 5010 := hHT46.c _ _
    have w2510 : 0 ≤ Xi T46 904 81 ∧ Xi T46 904 81 ≤ 5010 := hHT46.c _ _
    have w2511 : 0 ≤ Xi T46 904 94 ∧ Xi T46 904 94 ≤ 1700 := hHT46.c _ _
    have w2512 : 0 ≤ Xi T46 904 98 ∧ Xi T46 904 98 ≤ 1700 := hHT46.c _ _
    refine l_callV rfl rfl rfl (t_mo_mustBeNew__2 hHT46 n 2 ((Xi T46 904 23) + 0) 24 ⟨by omega, by omega⟩ ⟨by omega, by omega⟩ ⟨by omega, by omega⟩ (by first | assumption | exact (TK_FR hFT46 rfl (by assumption : TK S _))) (by first | assumption | exact (RNV_FR hFT46 rfl (by assumption : RNV S _))) (by first | assumption | omega) (by first | assumption | exact fun k hk => absurd hk (by omega) | exact (by assumption : NWV T46)) (by first | assumption | omega) _) ?_
    rintro _ T47 ⟨hHT47, w2518, rfl, w2513, g448, w2514, w2515, w2516⟩
    have hFT47 : FR md_mo_asked S T47 := FR.tr hFT46 w2518 rfl
    show Rl _ _ _ _ _ [] _ _
    have y448_69 : Xi T47 904 69 = Xi T46 904 69 := ((show Xi T47 904 69 = Xi T46 904 69 from w2518.x _ _ rfl))
    have y448_70 : Xi T47 904 70 = Xi T46 904 70 := ((show Xi T47 904 70 = Xi T46 904 70 from w2518.x _ _ rfl))
    have y448_71 : Xi T47 904 71 = Xi T46 904 71 := ((show Xi T47 904 71 = Xi T46 904 71 from w2518.x _ _ rfl))
    have y448_72 : Xi T47 904 72 = Xi T46 904 72 := ((show Xi T47 904 72 = Xi T46 904 72 from w2518.x _ _ rfl))
    have y448_73 : Xi T47 904 73 = Xi T46 904 73 := ((show Xi T47 904 73 = Xi T46 904 73 from w2518.x _ _ rfl))
    have y448_74 : Xi T47 904 74 = Xi T46 904 74 := ((show Xi T47 904 74 = Xi T46 904 74 from w2518.x _ _ rfl))
    have y448_78 : Xi T47 904 78 = Xi T46 904 78 := ((show Xi T47 904 78 = Xi T46 904 78 from w2518.x _ _ rfl))
    have y448_81 : Xi T47 904 81 = Xi T46 904 81 := ((show Xi T47 904 81 = Xi T46 904 81 from w2518.x _ _ rfl))
    have y448_94 : Xi T47 904 94 = Xi T46 904 94 := ((show Xi T47 904 94 = Xi T46 904 94 from w2518.x _ _ rfl))
    have y448_98 : Xi T47 904 98 = Xi T46 904 98 := ((show Xi T47 904 98 = Xi T46 904 98 from w2518.x _ _ rfl))
    have y448_60 : Xi T47 904 60 = Xi T46 904 60 := ((show Xi T47 904 60 = Xi T46 904 60 from w2518.x _ _ rfl))
    have y448_117 : Xi T47 904 117 = Xi T46 904 117 := ((show Xi T47 904 117 = Xi T46 904 117 from w2518.x _ _ rfl))
    have i448 : Xi T46 904 106 = 0 → 1 ≤ Xi T46 904 108 := fun q => (E427 q).2
    have H448 : Xi T47 904 106 = 0 → Xi S 904 23 + 1 < 24 ∧ Xi S 951 2 ≤ 3 := fun q => (by have t := g448 q; have u := t.2.1; rw [(hFT46.cx 951 rfl _).1] at u; have v : Xi T46 904 23 = Xi S 904 23 := hFT46.x 904 23 rfl; exact ⟨by omega, u⟩)
    have u448_23 : Xi T47 904 23 = Xi S 904 23 := hFT47.x 904 23 rfl
    have F448 : Xi T47 904 106 = 0 → DOK T47 := fun q => dok_18 (by omega) (⟨by rw [rnR_FR hFT47 rfl rfl]; exact (E427 (by omega)).1, by have t := H448 q; omega, by rw [(hFT47.cx 951 rfl _).1]; exact (G427 (by omega)).2, by rw [(hFT47.cx 951 rfl _).1]; exact (H448 q).2⟩)
    refine l_goto rfl rfl ?_
    refine l_return rfl rfl ?_
    have w2519 : 0 ≤ Xi T47 904 106 ∧ Xi T47 904 106 ≤ 9 := hHT47.c _ _
    have w2520 : 0 ≤ Xi T47 904 108 ∧ Xi T47 904 108 ≤ 2600 := hHT47.c _ _
    have w2521 : Xi T47 904 109 = Xi T46 904 109 := (show Xi T47 904 109 = Xi T46 904 109 from w2518.x _ _ rfl)
    have w2522 : Xi T47 904 115 = Xi T46 904 115 := (show Xi T47 904 115 = Xi T46 904 115 from w2518.x _ _ rfl)
    have w2523 : -1 ≤ Xi T46 904 115 ∧ Xi T46 904 115 ≤ 15 := hHT46.c _ _
    have w2524 : Xi T47 904 116 = Xi T46 904 116 := (show Xi T47 904 116 = Xi T46 904 116 from w2518.x _ _ rfl)
    have w2525 : -1 ≤ Xi T46 904 116 ∧ Xi T46 904 116 ≤ 15 := hHT46.c _ _
    have w2526 : Xi T47 904 117 = Xi T46 904 117 := (show Xi T47 904 117 = Xi T46 904 117 from w2518.x _ _ rfl)
    have w2527 : 0 ≤ Xi T46 904 117 ∧ Xi T46 904 117 ≤ 480 := hHT46.c _ _
    have w2528 : Xi T47 904 142 = Xi T46 904 142 := (show Xi T47 904 142 = Xi T46 904 142 from w2518.x _ _ rfl)
    have w2529 : 0 ≤ Xi T46 904 142 ∧ Xi T46 904 142 ≤ 4 := hHT46.c _ _
    have w2530 : Xi T47 904 60 = Xi T46 904 60 := (show Xi T47 904 60 = Xi T46 904 60 from w2518.x _ _ rfl)
    have w2531 : -1 ≤ Xi T46 904 60 ∧ Xi T46 904 60 ≤ 23 := hHT46.c _ _
    have w2532 : Xi T47 904 69 = Xi T46 904 69 := (show Xi T47 904 69 = Xi T46 904 69 from w2518.x _ _ rfl)
    have w2533 : 0 ≤ Xi T46 904 69 ∧ Xi T46 904 69 ≤ 2600 := hHT46.c _ _
    have w2534 : Xi T47 904 70 = Xi T46 904 70 := (show Xi T47 904 70 = Xi T46 904 70 from w2518.x _ _ rfl)
    have w2535 : 0 ≤ Xi T46 904 70 ∧ Xi T46 904 70 ≤ 20 := hHT46.c _ _
    have w2536 : Xi T47 904 71 = Xi T46 904 71 := (show Xi T47 904 71 = Xi T46 904 71 from w2518.x _ _ rfl)
    have w2537 : 0 ≤ Xi T46 904 71 ∧ Xi T46 904 71 ≤ 2600 := hHT46.c _ _
    have w2538 : Xi T47 904 72 = Xi T46 904 72 := (show Xi T47 904 72 = Xi T46 904 72 from w2518.x _ _ rfl)
    have w2539 : 0 ≤ Xi T46 904 72 ∧ Xi T46 904 72 ≤ 2600 := hHT46.c _ _
    have w2540 : Xi T47 904 73 = Xi T46 904 73 := (show Xi T47 904 73 = Xi T46 904 73 from w2518.x _ _ rfl)
    have w2541 : 0 ≤ Xi T46 904 73 ∧ Xi T46 904 73 ≤ 5 := hHT46.c _ _
    have w2542 : Xi T47 904 74 = Xi T46 904 74 := (show Xi T47 904 74 = Xi T46 904 74 from w2518.x _ _ rfl)
    have w2543 : 0 ≤ Xi T46 904 74 ∧ Xi T46 904 74 ≤ 2600 := hHT46.c _ _
    have w2544 : Xi T47 904 78 = Xi T46 904 78 := (show Xi T47 904 78 = Xi T46 904 78 from w2518.x _ _ rfl)
    have w2545 : -2 ≤ Xi T46 904 78 ∧ Xi T46 904 78 ≤ 5010 := hHT46.c _ _
    have w2546 : Xi T47 904 81 = Xi T46 904 81 := (show Xi T47 904 81 = Xi T46 904 81 from w2518.x _ _ rfl)
    have w2547 : 0 ≤ Xi T46 904 81 ∧ Xi T46 904 81 ≤ 5010 := hHT46.c _ _
    have w2548 : Xi T47 904 94 = Xi T46 904 94 := (show Xi T47 904 94 = Xi T46 904 94 from w2518.x _ _ rfl)
    have w2549 : 0 ≤ Xi T46 904 94 ∧ Xi T46 904 94 ≤ 1700 := hHT46.c _ _
    have w2550 : Xi T47 904 98 = Xi T46 904 98 := (show Xi T47 904 98 = Xi T46 904 98 from w2518.x _ _ rfl)
    have w2551 : 0 ≤ Xi T46 904 98 ∧ Xi T46 904 98 ≤ 1700 := hHT46.c _ _
    exact ⟨hHT47, hFT47, rfl, (by assumption), (by first | exact fun q => by assumption | assumption | exact fun q => (RDT_FR hHT46 w2518 rfl rfl rfl (by assumption : RDT T46)))⟩
  · refine l_iconst rfl ?_
    refine l_goto rfl rfl ?_
    refine l_iadd rfl ?_
    refine l_bipush rfl rfl ?_
    have w2552 : 0 ≤ Xi T46 904 106 ∧ Xi T46 904 106 ≤ 9 := hHT46.c _ _
    have w2553 : 0 ≤ Xi T46 904 108 ∧ Xi T46 904 108 ≤ 2600 := hHT46.c _ _
    have w2554 : -1 ≤ Xi T46 904 115 ∧ Xi T46 904 115 ≤ 15 := hHT46.c _ _
    have w2555 : -1 ≤ Xi T46 904 116 ∧ Xi T46 904 116 ≤ 15 := hHT46.c _ _
    have w2556 : 0 ≤ Xi T46 904 117 ∧ Xi T46 904 117 ≤ 480 := hHT46.c _ _
    have w2557 : 0 ≤ Xi T46 904 142 ∧ Xi T46 904 142 ≤ 4 := hHT46.c _ _
    have w2558 : -1 ≤ Xi T46 904 60 ∧ Xi T46 904 60 ≤ 23 := hHT46.c _ _
    have w2559 : 0 ≤ Xi T46 904 69 ∧ Xi T46 904 69 ≤ 2600 := hHT46.c _ _
    have w2560 : 0 ≤ Xi T46 904 70 ∧ Xi T46 904 70 ≤ 20 := hHT46.c _ _
    have w2561 : 0 ≤ Xi T46 904 71 ∧ Xi T46 904 71 ≤ 2600 := hHT46.c _ _
    have w2562 : 0 ≤ Xi T46 904 72 ∧ Xi T46 904 72 ≤ 2600 := hHT46.c _ _
    have w2563 : 0 ≤ Xi T46 904 73 ∧ Xi T46 904 73 ≤ 5 := hHT46.c _ _
    have w2564 : 0 ≤ Xi T46 904 74 ∧ Xi T46 904 74 ≤ 2600 := hHT46.c _ _
    have w2565 : -2 ≤ Xi T46 904 78 ∧ Xi T46 904 78 ≤ 5010 := hHT46.c _ _
    have w2566 : 0 ≤ Xi T46 904 81 ∧ Xi T46 904 81 ≤ 5010 := hHT46.c _ _
    have w2567 : 0 ≤ Xi T46 904 94 ∧ Xi T46 904 94 ≤ 1700 := hHT46.c _ _
    have w2568 : 0 ≤ Xi T46 904 98 ∧ Xi T46 904 98 ≤ 1700 := hHT46.c _ _
    refine l_callV rfl rfl rfl (t_mo_mustBeNew__2 hHT46 n 2 ((Xi T46 904 23) + 1) 24 ⟨by omega, by omega⟩ ⟨by omega, by omega⟩ ⟨by omega, by omega⟩ (by first | assumption | exact (TK_FR hFT46 rfl (by assumption : TK S _))) (by first | assumption | exact (RNV_FR hFT46 rfl (by assumption : RNV S _))) (by first | assumption | omega) (by first | assumption | exact fun k hk => absurd hk (by omega) | exact (by assumption : NWV T46)) (by first | assumption | omega) _) ?_
    rintro _ T48 ⟨hHT48, w2574, rfl, w2569, g448, w2570, w2571, w2572⟩
    have hFT48 : FR md_mo_asked S T48 := FR.tr hFT46 w2574 rfl
    show Rl _ _ _ _ _ [] _ _
    have y448_69 : Xi T48 904 69 = Xi T46 904 69 := ((show Xi T48 904 69 = Xi T46 904 69 from w2574.x _ _ rfl))
    have y448_70 : Xi T48 904 70 = Xi T46 904 70 := ((show Xi T48 904 70 = Xi T46 904 70 from w2574.x _ _ rfl))
    have y448_71 : Xi T48 904 71 = Xi T46 904 71 := ((show Xi T48 904 71 = Xi T46 904 71 from w2574.x _ _ rfl))
    have y448_72 : Xi T48 904 72 = Xi T46 904 72 := ((show Xi T48 904 72 = Xi T46 904 72 from w2574.x _ _ rfl))
    have y448_73 : Xi T48 904 73 = Xi T46 904 73 := ((show Xi T48 904 73 = Xi T46 904 73 from w2574.x _ _ rfl))
    have y448_74 : Xi T48 904 74 = Xi T46 904 74 := ((show Xi T48 904 74 = Xi T46 904 74 from w2574.x _ _ rfl))
    have y448_78 : Xi T48 904 78 = Xi T46 904 78 := ((show Xi T48 904 78 = Xi T46 904 78 from w2574.x _ _ rfl))
    have y448_81 : Xi T48 904 81 = Xi T46 904 81 := ((show Xi T48 904 81 = Xi T46 904 81 from w2574.x _ _ rfl))
    have y448_94 : Xi T48 904 94 = Xi T46 904 94 := ((show Xi T48 904 94 = Xi T46 904 94 from w2574.x _ _ rfl))
    have y448_98 : Xi T48 904 98 = Xi T46 904 98 := ((show Xi T48 904 98 = Xi T46 904 98 from w2574.x _ _ rfl))
    have y448_60 : Xi T48 904 60 = Xi T46 904 60 := ((show Xi T48 904 60 = Xi T46 904 60 from w2574.x _ _ rfl))
    have y448_117 : Xi T48 904 117 = Xi T46 904 117 := ((show Xi T48 904 117 = Xi T46 904 117 from w2574.x _ _ rfl))
    have i448 : Xi T46 904 106 = 0 → 1 ≤ Xi T46 904 108 := fun q => (E427 q).2
    have H448 : Xi T48 904 106 = 0 → Xi S 904 23 + 1 < 24 ∧ Xi S 951 2 ≤ 3 := fun q => (by have t := g448 q; have u := t.2.1; rw [(hFT46.cx 951 rfl _).1] at u; have v : Xi T46 904 23 = Xi S 904 23 := hFT46.x 904 23 rfl; exact ⟨by omega, u⟩)
    have u448_23 : Xi T48 904 23 = Xi S 904 23 := hFT48.x 904 23 rfl
    have F448 : Xi T48 904 106 = 0 → DOK T48 := fun q => dok_18 (by omega) (⟨by rw [rnR_FR hFT48 rfl rfl]; exact (E427 (by omega)).1, by have t := H448 q; omega, by rw [(hFT48.cx 951 rfl _).1]; exact (G427 (by omega)).2, by rw [(hFT48.cx 951 rfl _).1]; exact (H448 q).2⟩)
    refine l_goto rfl rfl ?_
    refine l_return rfl rfl ?_
    have w2575 : 0 ≤ Xi T48 904 106 ∧ Xi T48 904 106 ≤ 9 := hHT48.c _ _
    have w2576 : 0 ≤ Xi T48 904 108 ∧ Xi T48 904 108 ≤ 2600 := hHT48.c _ _
    have w2577 : Xi T48 904 109 = Xi T46 904 109 := (show Xi T48 904 109 = Xi T46 904 109 from w2574.x _ _ rfl)
    have w2578 : Xi T48 904 115 = Xi T46 904 115 := (show Xi T48 904 115 = Xi T46 904 115 from w2574.x _ _ rfl)
    have w2579 : -1 ≤ Xi T46 904 115 ∧ Xi T46 904 115 ≤ 15 := hHT46.c _ _
    have w2580 : Xi T48 904 116 = Xi T46 904 116 := (show Xi T48 904 116 = Xi T46 904 116 from w2574.x _ _ rfl)
    have w2581 : -1 ≤ Xi T46 904 116 ∧ Xi T46 904 116 ≤ 15 := hHT46.c _ _
    have w2582 : Xi T48 904 117 = Xi T46 904 117 := (show Xi T48 904 117 = Xi T46 904 117 from w2574.x _ _ rfl)
    have w2583 : 0 ≤ Xi T46 904 117 ∧ Xi T46 904 117 ≤ 480 := hHT46.c _ _
    have w2584 : Xi T48 904 142 = Xi T46 904 142 := (show Xi T48 904 142 = Xi T46 904 142 from w2574.x _ _ rfl)
    have w2585 : 0 ≤ Xi T46 904 142 ∧ Xi T46 904 142 ≤ 4 := hHT46.c _ _
    have w2586 : Xi T48 904 60 = Xi T46 904 60 := (show Xi T48 904 60 = Xi T46 904 60 from w2574.x _ _ rfl)
    have w2587 : -1 ≤ Xi T46 904 60 ∧ Xi T46 904 60 ≤ 23 := hHT46.c _ _
    have w2588 : Xi T48 904 69 = Xi T46 904 69 := (show Xi T48 904 69 = Xi T46 904 69 from w2574.x _ _ rfl)
    have w2589 : 0 ≤ Xi T46 904 69 ∧ Xi T46 904 69 ≤ 2600 := hHT46.c _ _
    have w2590 : Xi T48 904 70 = Xi T46 904 70 := (show Xi T48 904 70 = Xi T46 904 70 from w2574.x _ _ rfl)
    have w2591 : 0 ≤ Xi T46 904 70 ∧ Xi T46 904 70 ≤ 20 := hHT46.c _ _
    have w2592 : Xi T48 904 71 = Xi T46 904 71 := (show Xi T48 904 71 = Xi T46 904 71 from w2574.x _ _ rfl)
    have w2593 : 0 ≤ Xi T46 904 71 ∧ Xi T46 904 71 ≤ 2600 := hHT46.c _ _
    have w2594 : Xi T48 904 72 = Xi T46 904 72 := (show Xi T48 904 72 = Xi T46 904 72 from w2574.x _ _ rfl)
    have w2595 : 0 ≤ Xi T46 904 72 ∧ Xi T46 904 72 ≤ 2600 := hHT46.c _ _
    have w2596 : Xi T48 904 73 = Xi T46 904 73 := (show Xi T48 904 73 = Xi T46 904 73 from w2574.x _ _ rfl)
    have w2597 : 0 ≤ Xi T46 904 73 ∧ Xi T46 904 73 ≤ 5 := hHT46.c _ _
    have w2598 : Xi T48 904 74 = Xi T46 904 74 := (show Xi T48 904 74 = Xi T46 904 74 from w2574.x _ _ rfl)
    have w2599 : 0 ≤ Xi T46 904 74 ∧ Xi T46 904 74 ≤ 2600 := hHT46.c _ _
    have w2600 : Xi T48 904 78 = Xi T46 904 78 := (show Xi T48 904 78 = Xi T46 904 78 from w2574.x _ _ rfl)
    have w2601 : -2 ≤ Xi T46 904 78 ∧ Xi T46 904 78 ≤ 5010 := hHT46.c _ _
    have w2602 : Xi T48 904 81 = Xi T46 904 81 := (show Xi T48 904 81 = Xi T46 904 81 from w2574.x _ _ rfl)
    have w2603 : 0 ≤ Xi T46 904 81 ∧ Xi T46 904 81 ≤ 5010 := hHT46.c _ _
    have w2604 : Xi T48 904 94 = Xi T46 904 94 := (show Xi T48 904 94 = Xi T46 904 94 from w2574.x _ _ rfl)
    have w2605 : 0 ≤ Xi T46 904 94 ∧ Xi T46 904 94 ≤ 1700 := hHT46.c _ _
    have w2606 : Xi T48 904 98 = Xi T46 904 98 := (show Xi T48 904 98 = Xi T46 904 98 from w2574.x _ _ rfl)
    have w2607 : 0 ≤ Xi T46 904 98 ∧ Xi T46 904 98 ≤ 1700 := hHT46.c _ _
    exact ⟨hHT48, hFT48, rfl, (by assumption), (by first | exact fun q => by assumption | assumption | exact fun q => (RDT_FR hHT46 w2574 rfl rfl rfl (by assumption : RDT T46)))⟩
set_option maxRecDepth 100000 in
set_option maxHeartbeats 8000000 in
theorem c410_mo_asked {S : sS} (hH : HI S) (n : Nat) (dd : Nat) (first : Int) (hfirst : 0 ≤ first ∧ first ≤ 5001) (hT : TK S n) (hv : RNV S n) (hM : LXM S) (hB : ABV S) (hC : DCM S) (hK : TXK S n) (hX : TXM S) (hq : SNQ S n) (hap : AP9 S n) (h94 : Xi S 904 94 ≤ 1668) (hRD : RDT S) (hPF : PF S) (hdt : Xi S 904 70 = 20 → first ≤ dd ∧ dd < n ∧ Xi S 907 dd = 46) (d : Nat) : ∀  (T49 : sS) (_ : HI T49) (_ : FR md_mo_asked S T49), (Xi T49 904 117 = Xi S 904 117) → (Xi T49 904 69 = Xi S 904 69) → (Xi T49 904 70 = Xi S 904 70) → (Xi T49 904 71 = Xi S 904 71) → (Xi T49 904 72 = Xi S 904 72) → (Xi T49 904 73 = Xi S 904 73) → (Xi T49 904 74 = Xi S 904 74) → (Xi T49 904 78 = Xi S 904 78) → (Xi T49 904 81 = Xi S 904 81) → (Xi T49 904 94 = Xi S 904 94) → (Xi T49 904 98 = Xi S 904 98) → (Xi T49 904 60 = Xi S 904 60) → (Xi T49 904 106 = 0) → (Xi T49 904 108 = 0) → (Xi T49 904 115 = -1) → (Xi T49 904 116 = -1) → (SNQ T49 n) → (RDT T49) → (KQL T49 S (Xi S 904 117)) → (Xi S 904 70 = 18) → Rl lay0 (d + 12) m_mo_asked 410 [(0, .ref 904)] [] T49 (Q_mo_asked S n dd first) := by
  have C427 := c427_mo_asked hH n dd first hfirst hT hv hM hB hC hK hX hq hap h94 hRD hPF hdt d 
  have hF : FR md_mo_asked S S := FR.rf
  have w1 : 0 ≤ Xi S 904 106 ∧ Xi S 904 106 ≤ 9 := hH.c _ _
  have w2 : 0 ≤ Xi S 904 108 ∧ Xi S 904 108 ≤ 2600 := hH.c _ _
  have w3 : -1 ≤ Xi S 904 115 ∧ Xi S 904 115 ≤ 15 := hH.c _ _
  have w4 : -1 ≤ Xi S 904 116 ∧ Xi S 904 116 ≤ 15 := hH.c _ _
  have w5 : 0 ≤ Xi S 904 117 ∧ Xi S 904 117 ≤ 480 := hH.c _ _
  have w6 : 0 ≤ Xi S 904 23 ∧ Xi S 904 23 ≤ 24 := hH.c _ _
  have w7 : 0 ≤ Xi S 904 41 ∧ Xi S 904 41 ≤ 6 := hH.c _ _
  have w8 : -1 ≤ Xi S 904 60 ∧ Xi S 904 60 ≤ 23 := hH.c _ _
  have w9 : 0 ≤ Xi S 904 69 ∧ Xi S 904 69 ≤ 2600 := hH.c _ _
  have w10 : 0 ≤ Xi S 904 70 ∧ Xi S 904 70 ≤ 20 := hH.c _ _
  have w11 : 0 ≤ Xi S 904 71 ∧ Xi S 904 71 ≤ 2600 := hH.c _ _
  have w12 : 0 ≤ Xi S 904 72 ∧ Xi S 904 72 ≤ 2600 := hH.c _ _
  have w13 : 0 ≤ Xi S 904 73 ∧ Xi S 904 73 ≤ 5 := hH.c _ _
  have w14 : 0 ≤ Xi S 904 74 ∧ Xi S 904 74 ≤ 2600 := hH.c _ _
  have w15 : -2 ≤ Xi S 904 78 ∧ Xi S 904 78 ≤ 5010 := hH.c _ _
  have w16 : 0 ≤ Xi S 904 81 ∧ Xi S 904 81 ≤ 5010 := hH.c _ _
  have w17 : 0 ≤ Xi S 904 94 ∧ Xi S 904 94 ≤ 1700 := hH.c _ _
  have w18 : 0 ≤ Xi S 904 98 ∧ Xi S 904 98 ≤ 1700 := hH.c _ _
  have w19 : 0 ≤ Xi S 951 0 ∧ Xi S 951 0 ≤ 5010 := hH.c _ _
  have w20 : 0 ≤ Xi S 951 1 ∧ Xi S 951 1 ≤ 5010 := hH.c _ _
  have hn5 := hT.1
  have hc69 : 0 ≤ Xi S 904 69 ∧ Xi S 904 69 ≤ 2600 := hH.c _ _
  have hc70 : 0 ≤ Xi S 904 70 ∧ Xi S 904 70 ≤ 20 := hH.c _ _
  have hc23 : 0 ≤ Xi S 904 23 ∧ Xi S 904 23 ≤ 24 := hH.c _ _
  have hrf : ∀ r : Int, 0 ≤ r → r < Xi S 904 69 → Xi S 950 r.toNat + Xi S 951 r.toNat ≤ n ∧ 1 ≤ Xi S 951 r.toNat := fun r a b => hv r.toNat (by omega)
  have hq0 : KQL S S (Xi S 904 117) := KQL.rf
  intro T49 hHT49 hFT49 w2608 w2609 w2610 w2611 w2612 w2613 w2614 w2615 w2616 w2617 w2618 w2619 w2620 w2621 w2622 w2623 q20 r20 K20 w2624
  have w2625 : Xi T49 904 102 = Xi S 904 102 := hFT49.x _ _ rfl
  have w2626 : Xi T49 904 103 = Xi S 904 103 := hFT49.x _ _ rfl
  have w2627 : Xi T49 904 16 = Xi S 904 16 := hFT49.x _ _ rfl
  have w2628 : Xi T49 904 18 = Xi S 904 18 := hFT49.x _ _ rfl
  have w2629 : Xi T49 904 19 = Xi S 904 19 := hFT49.x _ _ rfl
  have w2630 : Xi T49 904 23 = Xi S 904 23 := hFT49.x _ _ rfl
  have w2631 : Xi T49 904 30 = Xi S 904 30 := hFT49.x _ _ rfl
  have w2632 : Xi T49 904 41 = Xi S 904 41 := hFT49.x _ _ rfl
  have w2633 : Xi T49 904 47 = Xi S 904 47 := hFT49.x _ _ rfl
  have w2634 : Xi T49 904 49 = Xi S 904 49 := hFT49.x _ _ rfl
  have w2635 : Xi T49 904 55 = Xi S 904 55 := hFT49.x _ _ rfl
  have w2636 : Xi T49 904 60 = Xi S 904 60 := hFT49.x _ _ rfl
  have w2637 : Xi T49 904 69 = Xi S 904 69 := hFT49.x _ _ rfl
  have w2638 : Xi T49 904 70 = Xi S 904 70 := hFT49.x _ _ rfl
  have w2639 : Xi T49 904 71 = Xi S 904 71 := hFT49.x _ _ rfl
  have w2640 : Xi T49 904 72 = Xi S 904 72 := hFT49.x _ _ rfl
  have w2641 : Xi T49 904 73 = Xi S 904 73 := hFT49.x _ _ rfl
  have w2642 : Xi T49 904 74 = Xi S 904 74 := hFT49.x _ _ rfl
  have w2643 : Xi T49 904 78 = Xi S 904 78 := hFT49.x _ _ rfl
  have w2644 : Xi T49 904 81 = Xi S 904 81 := hFT49.x _ _ rfl
  have w2645 : Xi T49 904 94 = Xi S 904 94 := hFT49.x _ _ rfl
  have w2646 : Xi T49 904 98 = Xi S 904 98 := hFT49.x _ _ rfl
  have w2647 : Xi T49 951 0 = Xi S 951 0 := hFT49.x _ _ rfl
  have w2648 : Xi T49 951 1 = Xi S 951 1 := hFT49.x _ _ rfl
  have w2649 : 0 ≤ Xi T49 904 106 ∧ Xi T49 904 106 ≤ 9 := hHT49.c _ _
  have w2650 : 0 ≤ Xi T49 904 108 ∧ Xi T49 904 108 ≤ 2600 := hHT49.c _ _
  have w2651 : -1 ≤ Xi T49 904 115 ∧ Xi T49 904 115 ≤ 15 := hHT49.c _ _
  have w2652 : -1 ≤ Xi T49 904 116 ∧ Xi T49 904 116 ≤ 15 := hHT49.c _ _
  have w2653 : 0 ≤ Xi T49 904 117 ∧ Xi T49 904 117 ≤ 480 := hHT49.c _ _
  have w2654 : -1 ≤ Xi T49 904 60 ∧ Xi T49 904 60 ≤ 23 := hHT49.c _ _
  have w2655 : 0 ≤ Xi T49 904 69 ∧ Xi T49 904 69 ≤ 2600 := hHT49.c _ _
  have w2656 : 0 ≤ Xi T49 904 70 ∧ Xi T49 904 70 ≤ 20 := hHT49.c _ _
  have w2657 : 0 ≤ Xi T49 904 71 ∧ Xi T49 904 71 ≤ 2600 := hHT49.c _ _
  have w2658 : 0 ≤ Xi T49 904 72 ∧ Xi T49 904 72 ≤ 2600 := hHT49.c _ _
  have w2659 : 0 ≤ Xi T49 904 73 ∧ Xi T49 904 73 ≤ 5 := hHT49.c _ _
  have w2660 : 0 ≤ Xi T49 904 74 ∧ Xi T49 904 74 ≤ 2600 := hHT49.c _ _
  have w2661 : -2 ≤ Xi T49 904 78 ∧ Xi T49 904 78 ≤ 5010 := hHT49.c _ _
  have w2662 : 0 ≤ Xi T49 904 81 ∧ Xi T49 904 81 ≤ 5010 := hHT49.c _ _
  have w2663 : 0 ≤ Xi T49 904 94 ∧ Xi T49 904 94 ≤ 1700 := hHT49.c _ _
  have w2664 : 0 ≤ Xi T49 904 98 ∧ Xi T49 904 98 ≤ 1700 := hHT49.c _ _
  refine l_aload_n rfl rfl ?_
  have s410 := q20.2.2.2.2.2.2.2.2.2 (by omega)
  have z410_0 : Xi S 950 0 + Xi S 951 0 ≤ n := (hv 0 (by omega)).1
  have z410_1 : Xi S 950 1 + Xi S 951 1 ≤ n := (hv 1 (by omega)).1
  have z410_2 : Xi S 950 2 + Xi S 951 2 ≤ n := (hv 2 (by omega)).1
  refine l_iconst rfl ?_
  have w2665 : 0 ≤ Xi T49 904 106 ∧ Xi T49 904 106 ≤ 9 := hHT49.c _ _
  have w2666 : 0 ≤ Xi T49 904 108 ∧ Xi T49 904 108 ≤ 2600 := hHT49.c _ _
  have w2667 : -1 ≤ Xi T49 904 115 ∧ Xi T49 904 115 ≤ 15 := hHT49.c _ _
  have w2668 : -1 ≤ Xi T49 904 116 ∧ Xi T49 904 116 ≤ 15 := hHT49.c _ _
  have w2669 : 0 ≤ Xi T49 904 117 ∧ Xi T49 904 117 ≤ 480 := hHT49.c _ _
  have w2670 : 0 ≤ Xi T49 904 142 ∧ Xi T49 904 142 ≤ 4 := hHT49.c _ _
  have w2671 : 0 ≤ Xi T49 904 16 ∧ Xi T49 904 16 ≤ 16 := hHT49.c _ _
  have w2672 : -1 ≤ Xi T49 904 60 ∧ Xi T49 904 60 ≤ 23 := hHT49.c _ _
  have w2673 : 0 ≤ Xi T49 904 69 ∧ Xi T49 904 69 ≤ 2600 := hHT49.c _ _
  have w2674 : 0 ≤ Xi T49 904 70 ∧ Xi T49 904 70 ≤ 20 := hHT49.c _ _
  have w2675 : 0 ≤ Xi T49 904 71 ∧ Xi T49 904 71 ≤ 2600 := hHT49.c _ _
  have w2676 : 0 ≤ Xi T49 904 72 ∧ Xi T49 904 72 ≤ 2600 := hHT49.c _ _
  have w2677 : 0 ≤ Xi T49 904 73 ∧ Xi T49 904 73 ≤ 5 := hHT49.c _ _
  have w2678 : 0 ≤ Xi T49 904 74 ∧ Xi T49 904 74 ≤ 2600 := hHT49.c _ _
  have w2679 : -2 ≤ Xi T49 904 78 ∧ Xi T49 904 78 ≤ 5010 := hHT49.c _ _
  have w2680 : 0 ≤ Xi T49 904 81 ∧ Xi T49 904 81 ≤ 5010 := hHT49.c _ _
  have w2681 : 0 ≤ Xi T49 904 94 ∧ Xi T49 904 94 ≤ 1700 := hHT49.c _ _
  have w2682 : 0 ≤ Xi T49 904 98 ∧ Xi T49 904 98 ≤ 1700 := hHT49.c _ _
  refine l_callV rfl rfl rfl (t_mo_kindOfRun__2 hHT49 n 0 ⟨by omega, by omega⟩ (by first | assumption | exact (TK_FR hFT49 rfl (by assumption : TK S _))) (by first | assumption | exact (RNV_FR hFT49 rfl (by assumption : RNV S _))) (by first | assumption | omega) (by first | assumption | exact (LXM_FR hFT49 rfl (by assumption : LXM S))) _) ?_
  rintro _ T50 ⟨hHT50, w2688, z2687, rfl, w2687, w2683, w2684, w2685, w2686⟩
  have hFT50 : FR md_mo_asked S T50 := FR.tr hFT49 w2688 rfl
  show Rl _ _ _ _ _ [iv z2687] _ _
  have r412 : z2687 = rnR S 0 0 := (by assumption : z2687 = rnR T49 _ _).trans (rnR_FR hFT49 rfl rfl)
  refine l_pop rfl rfl ?_
  refine l_aload_n rfl rfl ?_
  refine l_iconst rfl ?_
  refine l_aload_n rfl rfl ?_
  refine l_gfi rfl rfl rfl rfl rfl ?_
  have w2689 : (Xi T50 904 23) = (Xi T49 904 23) := (show Xi T50 904 23 = Xi T49 904 23 from w2688.x _ _ rfl)
  rw [w2689]
  refine l_bipush rfl rfl ?_
  have w2690 : 0 ≤ Xi T50 904 106 ∧ Xi T50 904 106 ≤ 9 := hHT50.c _ _
  have w2691 : Xi T50 904 108 = Xi T49 904 108 := (show Xi T50 904 108 = Xi T49 904 108 from w2688.x _ _ rfl)
  have w2692 : 0 ≤ Xi T49 904 108 ∧ Xi T49 904 108 ≤ 2600 := hHT49.c _ _
  have w2693 : Xi T50 904 109 = Xi T49 904 109 := (show Xi T50 904 109 = Xi T49 904 109 from w2688.x _ _ rfl)
  have w2694 : Xi T50 904 115 = Xi T49 904 115 := (show Xi T50 904 115 = Xi T49 904 115 from w2688.x _ _ rfl)
  have w2695 : -1 ≤ Xi T49 904 115 ∧ Xi T49 904 115 ≤ 15 := hHT49.c _ _
  have w2696 : Xi T50 904 116 = Xi T49 904 116 := (show Xi T50 904 116 = Xi T49 904 116 from w2688.x _ _ rfl)
  have w2697 : -1 ≤ Xi T49 904 116 ∧ Xi T49 904 116 ≤ 15 := hHT49.c _ _
  have w2698 : Xi T50 904 117 = Xi T49 904 117 := (show Xi T50 904 117 = Xi T49 904 117 from w2688.x _ _ rfl)
  have w2699 : 0 ≤ Xi T49 904 117 ∧ Xi T49 904 117 ≤ 480 := hHT49.c _ _
  have w2700 : Xi T50 904 142 = Xi T49 904 142 := (show Xi T50 904 142 = Xi T49 904 142 from w2688.x _ _ rfl)
  have w2701 : 0 ≤ Xi T49 904 142 ∧ Xi T49 904 142 ≤ 4 := hHT49.c _ _
  have w2702 : Xi T50 904 60 = Xi T49 904 60 := (show Xi T50 904 60 = Xi T49 904 60 from w2688.x _ _ rfl)
  have w2703 : -1 ≤ Xi T49 904 60 ∧ Xi T49 904 60 ≤ 23 := hHT49.c _ _
  have w2704 : Xi T50 904 69 = Xi T49 904 69 := (show Xi T50 904 69 = Xi T49 904 69 from w2688.x _ _ rfl)
  have w2705 : 0 ≤ Xi T49 904 69 ∧ Xi T49 904 69 ≤ 2600 := hHT49.c _ _
  have w2706 : Xi T50 904 70 = Xi T49 904 70 := (show Xi T50 904 70 = Xi T49 904 70 from w2688.x _ _ rfl)
  have w2707 : 0 ≤ Xi T49 904 70 ∧ Xi T49 904 70 ≤ 20 := hHT49.c _ _
  have w2708 : Xi T50 904 71 = Xi T49 904 71 := (show Xi T50 904 71 = Xi T49 904 71 from w2688.x _ _ rfl)
  have w2709 : 0 ≤ Xi T49 904 71 ∧ Xi T49 904 71 ≤ 2600 := hHT49.c _ _
  have w2710 : Xi T50 904 72 = Xi T49 904 72 := (show Xi T50 904 72 = Xi T49 904 72 from w2688.x _ _ rfl)
  have w2711 : 0 ≤ Xi T49 904 72 ∧ Xi T49 904 72 ≤ 2600 := hHT49.c _ _
  have w2712 : Xi T50 904 73 = Xi T49 904 73 := (show Xi T50 904 73 = Xi T49 904 73 from w2688.x _ _ rfl)
  have w2713 : 0 ≤ Xi T49 904 73 ∧ Xi T49 904 73 ≤ 5 := hHT49.c _ _
  have w2714 : Xi T50 904 74 = Xi T49 904 74 := (show Xi T50 904 74 = Xi T49 904 74 from w2688.x _ _ rfl)
  have w2715 : 0 ≤ Xi T49 904 74 ∧ Xi T49 904 74 ≤ 2600 := hHT49.c _ _
  have w2716 : Xi T50 904 78 = Xi T49 904 78 := (show Xi T50 904 78 = Xi T49 904 78 from w2688.x _ _ rfl)
  have w2717 : -2 ≤ Xi T49 904 78 ∧ Xi T49 904 78 ≤ 5010 := hHT49.c _ _
  have w2718 : Xi T50 904 81 = Xi T49 904 81 := (show Xi T50 904 81 = Xi T49 904 81 from w2688.x _ _ rfl)
  have w2719 : 0 ≤ Xi T49 904 81 ∧ Xi T49 904 81 ≤ 5010 := hHT49.c _ _
  have w2720 : Xi T50 904 94 = Xi T49 904 94 := (show Xi T50 904 94 = Xi T49 904 94 from w2688.x _ _ rfl)
  have w2721 : 0 ≤ Xi T49 904 94 ∧ Xi T49 904 94 ≤ 1700 := hHT49.c _ _
  have w2722 : Xi T50 904 98 = Xi T49 904 98 := (show Xi T50 904 98 = Xi T49 904 98 from w2688.x _ _ rfl)
  have w2723 : 0 ≤ Xi T49 904 98 ∧ Xi T49 904 98 ≤ 1700 := hHT49.c _ _
  refine l_callV rfl rfl rfl (t_mo_mustBeNew__2 hHT50 n 1 (Xi T49 904 23) 24 ⟨by omega, by omega⟩ ⟨by omega, by omega⟩ ⟨by omega, by omega⟩ (by first | assumption | exact (TK_FR hFT50 rfl (by assumption : TK S _))) (by first | assumption | exact (RNV_FR hFT50 rfl (by assumption : RNV S _))) (by first | assumption | omega) (by first | assumption | exact fun k hk => absurd hk (by omega) | exact (NWV_FR w2688 rfl (by assumption : NWV T49))) (by first | assumption | omega) _) ?_
  rintro _ T51 ⟨hHT51, w2729, rfl, w2724, g424, w2725, w2726, w2727⟩
  have hFT51 : FR md_mo_asked S T51 := FR.tr hFT50 w2729 rfl
  show Rl _ _ _ _ _ [] _ _
  have G424 : Xi T51 904 106 = 0 → Xi S 904 23 < 24 ∧ Xi S 951 1 ≤ 3 := fun q => (by have t := g424 q; have u := t.2.1; rw [(hFT50.cx 951 rfl _).1] at u; have v : Xi T50 904 23 = Xi S 904 23 := hFT50.x 904 23 rfl; exact ⟨by omega, u⟩)
  have w2730 : 0 ≤ Xi T51 904 106 ∧ Xi T51 904 106 ≤ 9 := hHT51.c _ _
  have w2731 : 0 ≤ Xi T51 904 108 ∧ Xi T51 904 108 ≤ 2600 := hHT51.c _ _
  have w2732 : Xi T51 904 109 = Xi T49 904 109 := (show Xi T51 904 109 = Xi T50 904 109 from w2729.x _ _ rfl).trans ((show Xi T50 904 109 = Xi T49 904 109 from w2688.x _ _ rfl))
  have w2733 : Xi T51 904 115 = Xi T49 904 115 := (show Xi T51 904 115 = Xi T50 904 115 from w2729.x _ _ rfl).trans ((show Xi T50 904 115 = Xi T49 904 115 from w2688.x _ _ rfl))
  have w2734 : -1 ≤ Xi T49 904 115 ∧ Xi T49 904 115 ≤ 15 := hHT49.c _ _
  have w2735 : Xi T51 904 116 = Xi T49 904 116 := (show Xi T51 904 116 = Xi T50 904 116 from w2729.x _ _ rfl).trans ((show Xi T50 904 116 = Xi T49 904 116 from w2688.x _ _ rfl))
  have w2736 : -1 ≤ Xi T49 904 116 ∧ Xi T49 904 116 ≤ 15 := hHT49.c _ _
  have w2737 : Xi T51 904 117 = Xi T49 904 117 := (show Xi T51 904 117 = Xi T50 904 117 from w2729.x _ _ rfl).trans ((show Xi T50 904 117 = Xi T49 904 117 from w2688.x _ _ rfl))
  have w2738 : 0 ≤ Xi T49 904 117 ∧ Xi T49 904 117 ≤ 480 := hHT49.c _ _
  have w2739 : Xi T51 904 142 = Xi T49 904 142 := (show Xi T51 904 142 = Xi T50 904 142 from w2729.x _ _ rfl).trans ((show Xi T50 904 142 = Xi T49 904 142 from w2688.x _ _ rfl))
  have w2740 : 0 ≤ Xi T49 904 142 ∧ Xi T49 904 142 ≤ 4 := hHT49.c _ _
  have w2741 : Xi T51 904 60 = Xi T49 904 60 := (show Xi T51 904 60 = Xi T50 904 60 from w2729.x _ _ rfl).trans ((show Xi T50 904 60 = Xi T49 904 60 from w2688.x _ _ rfl))
  have w2742 : -1 ≤ Xi T49 904 60 ∧ Xi T49 904 60 ≤ 23 := hHT49.c _ _
  have w2743 : Xi T51 904 69 = Xi T49 904 69 := (show Xi T51 904 69 = Xi T50 904 69 from w2729.x _ _ rfl).trans ((show Xi T50 904 69 = Xi T49 904 69 from w2688.x _ _ rfl))
  have w2744 : 0 ≤ Xi T49 904 69 ∧ Xi T49 904 69 ≤ 2600 := hHT49.c _ _
  have w2745 : Xi T51 904 70 = Xi T49 904 70 := (show Xi T51 904 70 = Xi T50 904 70 from w2729.x _ _ rfl).trans ((show Xi T50 904 70 = Xi T49 904 70 from w2688.x _ _ rfl))
  have w2746 : 0 ≤ Xi T49 904 70 ∧ Xi T49 904 70 ≤ 20 := hHT49.c _ _
  have w2747 : Xi T51 904 71 = Xi T49 904 71 := (show Xi T51 904 71 = Xi T50 904 71 from w2729.x _ _ rfl).trans ((show Xi T50 904 71 = Xi T49 904 71 from w2688.x _ _ rfl))
  have w2748 : 0 ≤ Xi T49 904 71 ∧ Xi T49 904 71 ≤ 2600 := hHT49.c _ _
  have w2749 : Xi T51 904 72 = Xi T49 904 72 := (show Xi T51 904 72 = Xi T50 904 72 from w2729.x _ _ rfl).trans ((show Xi T50 904 72 = Xi T49 904 72 from w2688.x _ _ rfl))
  have w2750 : 0 ≤ Xi T49 904 72 ∧ Xi T49 904 72 ≤ 2600 := hHT49.c _ _
  have w2751 : Xi T51 904 73 = Xi T49 904 73 := (show Xi T51 904 73 = Xi T50 904 73 from w2729.x _ _ rfl).trans ((show Xi T50 904 73 = Xi T49 904 73 from w2688.x _ _ rfl))
  have w2752 : 0 ≤ Xi T49 904 73 ∧ Xi T49 904 73 ≤ 5 := hHT49.c _ _
  have w2753 : Xi T51 904 74 = Xi T49 904 74 := (show Xi T51 904 74 = Xi T50 904 74 from w2729.x _ _ rfl).trans ((show Xi T50 904 74 = Xi T49 904 74 from w2688.x _ _ rfl))
  have w2754 : 0 ≤ Xi T49 904 74 ∧ Xi T49 904 74 ≤ 2600 := hHT49.c _ _
  have w2755 : Xi T51 904 78 = Xi T49 904 78 := (show Xi T51 904 78 = Xi T50 904 78 from w2729.x _ _ rfl).trans ((show Xi T50 904 78 = Xi T49 904 78 from w2688.x _ _ rfl))
  have w2756 : -2 ≤ Xi T49 904 78 ∧ Xi T49 904 78 ≤ 5010 := hHT49.c _ _
  have w2757 : Xi T51 904 81 = Xi T49 904 81 := (show Xi T51 904 81 = Xi T50 904 81 from w2729.x _ _ rfl).trans ((show Xi T50 904 81 = Xi T49 904 81 from w2688.x _ _ rfl))
  have w2758 : 0 ≤ Xi T49 904 81 ∧ Xi T49 904 81 ≤ 5010 := hHT49.c _ _
  have w2759 : Xi T51 904 94 = Xi T49 904 94 := (show Xi T51 904 94 = Xi T50 904 94 from w2729.x _ _ rfl).trans ((show Xi T50 904 94 = Xi T49 904 94 from w2688.x _ _ rfl))
  have w2760 : 0 ≤ Xi T49 904 94 ∧ Xi T49 904 94 ≤ 1700 := hHT49.c _ _
  have w2761 : Xi T51 904 98 = Xi T49 904 98 := (show Xi T51 904 98 = Xi T50 904 98 from w2729.x _ _ rfl).trans ((show Xi T50 904 98 = Xi T49 904 98 from w2688.x _ _ rfl))
  have w2762 : 0 ≤ Xi T49 904 98 ∧ Xi T49 904 98 ≤ 1700 := hHT49.c _ _
  exact Rl_weak (C427 T51 hHT51 hFT51  (by omega) (by omega) (by omega) (by omega) (by omega) (by omega) (by omega) (by omega) (by omega) (by omega) (by omega) (by omega) (by first | assumption | exact fun k hk => absurd hk (by omega) | exact (by assumption : NWV T51)) (by first | assumption | exact (RDT_FR hHT50 w2729 rfl rfl rfl (RDT_FR hHT49 w2688 rfl rfl rfl (by assumption : RDT T49)))) (by omega) (by omega) (by omega) (fun q => ⟨by omega, by omega⟩) (G424)) (And.intro rfl (True.intro))
set_option maxRecDepth 100000 in
set_option maxHeartbeats 8000000 in
theorem c490_mo_asked {S : sS} (hH : HI S) (n : Nat) (dd : Nat) (first : Int) (hfirst : 0 ≤ first ∧ first ≤ 5001) (hT : TK S n) (hv : RNV S n) (hM : LXM S) (hB : ABV S) (hC : DCM S) (hK : TXK S n) (hX : TXM S) (hq : SNQ S n) (hap : AP9 S n) (h94 : Xi S 904 94 ≤ 1668) (hRD : RDT S) (hPF : PF S) (hdt : Xi S 904 70 = 20 → first ≤ dd ∧ dd < n ∧ Xi S 907 dd = 46) (d : Nat) : ∀  (T52 : sS) (_ : HI T52) (_ : FR md_mo_asked S T52), (Xi T52 904 117 = Xi S 904 117) → (Xi T52 904 60 = Xi S 904 60) → (Xi T52 904 69 = Xi S 904 69) → (Xi T52 904 70 = Xi S 904 70) → (Xi T52 904 71 = Xi S 904 71) → (Xi T52 904 72 = Xi S 904 72) → (Xi T52 904 73 = Xi S 904 73) → (Xi T52 904 74 = Xi S 904 74) → (Xi T52 904 78 = Xi S 904 78) → (Xi T52 904 81 = Xi S 904 81) → (Xi T52 904 94 = Xi S 904 94) → (Xi T52 904 98 = Xi S 904 98) → (NWV T52) → (RDT T52) → (Xi S 904 70 = 19) → (3 ≤ Xi S 904 69) → (Xi T52 904 106 = 0 → r2R S 1 0 1 ≠ -1) → (Xi T52 904 106 = 0 → Xi S 904 41 < 6 ∧ Xi S 951 0 ≤ 3) → Rl lay0 (d + 12) m_mo_asked 490 [(0, .ref 904)] [] T52 (Q_mo_asked S n dd first) := by
  have hF : FR md_mo_asked S S := FR.rf
  have w1 : 0 ≤ Xi S 904 106 ∧ Xi S 904 106 ≤ 9 := hH.c _ _
  have w2 : 0 ≤ Xi S 904 108 ∧ Xi S 904 108 ≤ 2600 := hH.c _ _
  have w3 : -1 ≤ Xi S 904 115 ∧ Xi S 904 115 ≤ 15 := hH.c _ _
  have w4 : -1 ≤ Xi S 904 116 ∧ Xi S 904 116 ≤ 15 := hH.c _ _
  have w5 : 0 ≤ Xi S 904 117 ∧ Xi S 904 117 ≤ 480 := hH.c _ _
  have w6 : 0 ≤ Xi S 904 23 ∧ Xi S 904 23 ≤ 24 := hH.c _ _
  have w7 : 0 ≤ Xi S 904 41 ∧ Xi S 904 41 ≤ 6 := hH.c _ _
  have w8 : -1 ≤ Xi S 904 60 ∧ Xi S 904 60 ≤ 23 := hH.c _ _
  have w9 : 0 ≤ Xi S 904 69 ∧ Xi S 904 69 ≤ 2600 := hH.c _ _
  have w10 : 0 ≤ Xi S 904 70 ∧ Xi S 904 70 ≤ 20 := hH.c _ _
  have w11 : 0 ≤ Xi S 904 71 ∧ Xi S 904 71 ≤ 2600 := hH.c _ _
  have w12 : 0 ≤ Xi S 904 72 ∧ Xi S 904 72 ≤ 2600 := hH.c _ _
  have w13 : 0 ≤ Xi S 904 73 ∧ Xi S 904 73 ≤ 5 := hH.c _ _
  have w14 : 0 ≤ Xi S 904 74 ∧ Xi S 904 74 ≤ 2600 := hH.c _ _
  have w15 : -2 ≤ Xi S 904 78 ∧ Xi S 904 78 ≤ 5010 := hH.c _ _
  have w16 : 0 ≤ Xi S 904 81 ∧ Xi S 904 81 ≤ 5010 := hH.c _ _
  have w17 : 0 ≤ Xi S 904 94 ∧ Xi S 904 94 ≤ 1700 := hH.c _ _
  have w18 : 0 ≤ Xi S 904 98 ∧ Xi S 904 98 ≤ 1700 := hH.c _ _
  have w19 : 0 ≤ Xi S 951 0 ∧ Xi S 951 0 ≤ 5010 := hH.c _ _
  have w20 : 0 ≤ Xi S 951 1 ∧ Xi S 951 1 ≤ 5010 := hH.c _ _
  have hn5 := hT.1
  have hc69 : 0 ≤ Xi S 904 69 ∧ Xi S 904 69 ≤ 2600 := hH.c _ _
  have hc70 : 0 ≤ Xi S 904 70 ∧ Xi S 904 70 ≤ 20 := hH.c _ _
  have hc23 : 0 ≤ Xi S 904 23 ∧ Xi S 904 23 ≤ 24 := hH.c _ _
  have hrf : ∀ r : Int, 0 ≤ r → r < Xi S 904 69 → Xi S 950 r.toNat + Xi S 951 r.toNat ≤ n ∧ 1 ≤ Xi S 951 r.toNat := fun r a b => hv r.toNat (by omega)
  have hq0 : KQL S S (Xi S 904 117) := KQL.rf
  intro T52 hHT52 hFT52 w2763 w2764 w2765 w2766 w2767 w2768 w2769 w2770 w2771 w2772 w2773 w2774 N490 R490 w2775 w2776 E490 G490
  have w2777 : Xi T52 904 102 = Xi S 904 102 := hFT52.x _ _ rfl
  have w2778 : Xi T52 904 103 = Xi S 904 103 := hFT52.x _ _ rfl
  have w2779 : Xi T52 904 16 = Xi S 904 16 := hFT52.x _ _ rfl
  have w2780 : Xi T52 904 18 = Xi S 904 18 := hFT52.x _ _ rfl
  have w2781 : Xi T52 904 19 = Xi S 904 19 := hFT52.x _ _ rfl
  have w2782 : Xi T52 904 23 = Xi S 904 23 := hFT52.x _ _ rfl
  have w2783 : Xi T52 904 30 = Xi S 904 30 := hFT52.x _ _ rfl
  have w2784 : Xi T52 904 41 = Xi S 904 41 := hFT52.x _ _ rfl
  have w2785 : Xi T52 904 47 = Xi S 904 47 := hFT52.x _ _ rfl
  have w2786 : Xi T52 904 49 = Xi S 904 49 := hFT52.x _ _ rfl
  have w2787 : Xi T52 904 55 = Xi S 904 55 := hFT52.x _ _ rfl
  have w2788 : Xi T52 904 60 = Xi S 904 60 := hFT52.x _ _ rfl
  have w2789 : Xi T52 904 69 = Xi S 904 69 := hFT52.x _ _ rfl
  have w2790 : Xi T52 904 70 = Xi S 904 70 := hFT52.x _ _ rfl
  have w2791 : Xi T52 904 71 = Xi S 904 71 := hFT52.x _ _ rfl
  have w2792 : Xi T52 904 72 = Xi S 904 72 := hFT52.x _ _ rfl
  have w2793 : Xi T52 904 73 = Xi S 904 73 := hFT52.x _ _ rfl
  have w2794 : Xi T52 904 74 = Xi S 904 74 := hFT52.x _ _ rfl
  have w2795 : Xi T52 904 78 = Xi S 904 78 := hFT52.x _ _ rfl
  have w2796 : Xi T52 904 81 = Xi S 904 81 := hFT52.x _ _ rfl
  have w2797 : Xi T52 904 94 = Xi S 904 94 := hFT52.x _ _ rfl
  have w2798 : Xi T52 904 98 = Xi S 904 98 := hFT52.x _ _ rfl
  have w2799 : Xi T52 951 0 = Xi S 951 0 := hFT52.x _ _ rfl
  have w2800 : Xi T52 951 1 = Xi S 951 1 := hFT52.x _ _ rfl
  have w2801 : 0 ≤ Xi T52 904 106 ∧ Xi T52 904 106 ≤ 9 := hHT52.c _ _
  have w2802 : 0 ≤ Xi T52 904 117 ∧ Xi T52 904 117 ≤ 480 := hHT52.c _ _
  have w2803 : -1 ≤ Xi T52 904 60 ∧ Xi T52 904 60 ≤ 23 := hHT52.c _ _
  have w2804 : 0 ≤ Xi T52 904 69 ∧ Xi T52 904 69 ≤ 2600 := hHT52.c _ _
  have w2805 : 0 ≤ Xi T52 904 70 ∧ Xi T52 904 70 ≤ 20 := hHT52.c _ _
  have w2806 : 0 ≤ Xi T52 904 71 ∧ Xi T52 904 71 ≤ 2600 := hHT52.c _ _
  have w2807 : 0 ≤ Xi T52 904 72 ∧ Xi T52 904 72 ≤ 2600 := hHT52.c _ _
  have w2808 : 0 ≤ Xi T52 904 73 ∧ Xi T52 904 73 ≤ 5 := hHT52.c _ _
  have w2809 : 0 ≤ Xi T52 904 74 ∧ Xi T52 904 74 ≤ 2600 := hHT52.c _ _
  have w2810 : -2 ≤ Xi T52 904 78 ∧ Xi T52 904 78 ≤ 5010 := hHT52.c _ _
  have w2811 : 0 ≤ Xi T52 904 81 ∧ Xi T52 904 81 ≤ 5010 := hHT52.c _ _
  have w2812 : 0 ≤ Xi T52 904 94 ∧ Xi T52 904 94 ≤ 1700 := hHT52.c _ _
  have w2813 : 0 ≤ Xi T52 904 98 ∧ Xi T52 904 98 ≤ 1700 := hHT52.c _ _
  refine l_aload_n rfl rfl ?_
  have z490_2 : Xi S 950 2 + Xi S 951 2 ≤ n ∧ 1 ≤ Xi S 951 2 := hv 2 (by omega)
  refine l_aload_n rfl rfl ?_
  refine l_iconst rfl ?_
  have w2814 : 0 ≤ Xi T52 904 106 ∧ Xi T52 904 106 ≤ 9 := hHT52.c _ _
  have w2815 : 0 ≤ Xi T52 904 108 ∧ Xi T52 904 108 ≤ 2600 := hHT52.c _ _
  have w2816 : -1 ≤ Xi T52 904 115 ∧ Xi T52 904 115 ≤ 15 := hHT52.c _ _
  have w2817 : -1 ≤ Xi T52 904 116 ∧ Xi T52 904 116 ≤ 15 := hHT52.c _ _
  have w2818 : 0 ≤ Xi T52 904 117 ∧ Xi T52 904 117 ≤ 480 := hHT52.c _ _
  have w2819 : 0 ≤ Xi T52 904 142 ∧ Xi T52 904 142 ≤ 4 := hHT52.c _ _
  have w2820 : 0 ≤ Xi T52 904 16 ∧ Xi T52 904 16 ≤ 16 := hHT52.c _ _
  have w2821 : -1 ≤ Xi T52 904 60 ∧ Xi T52 904 60 ≤ 23 := hHT52.c _ _
  have w2822 : 0 ≤ Xi T52 904 69 ∧ Xi T52 904 69 ≤ 2600 := hHT52.c _ _
  have w2823 : 0 ≤ Xi T52 904 70 ∧ Xi T52 904 70 ≤ 20 := hHT52.c _ _
  have w2824 : 0 ≤ Xi T52 904 71 ∧ Xi T52 904 71 ≤ 2600 := hHT52.c _ _
  have w2825 : 0 ≤ Xi T52 904 72 ∧ Xi T52 904 72 ≤ 2600 := hHT52.c _ _
  have w2826 : 0 ≤ Xi T52 904 73 ∧ Xi T52 904 73 ≤ 5 := hHT52.c _ _
  have w2827 : 0 ≤ Xi T52 904 74 ∧ Xi T52 904 74 ≤ 2600 := hHT52.c _ _
  have w2828 : -2 ≤ Xi T52 904 78 ∧ Xi T52 904 78 ≤ 5010 := hHT52.c _ _
  have w2829 : 0 ≤ Xi T52 904 81 ∧ Xi T52 904 81 ≤ 5010 := hHT52.c _ _
  have w2830 : 0 ≤ Xi T52 904 94 ∧ Xi T52 904 94 ≤ 1700 := hHT52.c _ _
  have w2831 : 0 ≤ Xi T52 904 98 ∧ Xi T52 904 98 ≤ 1700 := hHT52.c _ _
  refine l_callV rfl rfl rfl (t_mo_kindOrPlural__2 hHT52 n 2 ⟨by omega, by omega⟩ (by first | assumption | exact (TK_FR hFT52 rfl (by assumption : TK S _))) (by first | assumption | exact (RNV_FR hFT52 rfl (by assumption : RNV S _))) (by first | assumption | omega) (by first | assumption | exact (LXM_FR hFT52 rfl (by assumption : LXM S))) _) ?_
  rintro _ _ ⟨rfl, z2834, rfl, w2834, w2832, w2833⟩
  show Rl _ _ _ _ _ [iv z2834, .ref 904] _ _
  have r493 : z2834 = r2R S 2 0 1 := (by assumption : z2834 = r2R T52 _ _ _).trans (r2R_FR hFT52 rfl rfl)
  refine l_iconst rfl ?_
  refine l_icmp_eq rfl rfl (by unfold rg; omega) (by unfold rg; omega) (fun w2835 => ?_) (fun w2836 => ?_)
  · refine l_iconst rfl ?_
    refine l_iconst rfl ?_
    refine l_aload_n rfl rfl ?_
    refine l_gfr rfl rfl rfl rfl rfl (hHT52.r 904 67 950 rfl) ?_
    refine l_iconst rfl ?_
    refine l_iaload (n := 2600) rfl rfl (by omega) (by omega) (by unfold rg; omega) ?_
    have w2837 : 0 ≤ (Xi T52 950 ((2 : Int).toNat)) ∧ (Xi T52 950 ((2 : Int).toNat)) ≤ 5010 := hHT52.c _ _
    have w2838 : (Xi T52 950 ((2 : Int).toNat)) = Xi T52 950 2 := rfl
    have e511 : (Xi T52 950 ((2 : Int).toNat)) = Xi S 950 2 := by first | rfl | exact (hFT52.cx 950 rfl _).1
    have w2839 : 0 ≤ Xi T52 904 106 ∧ Xi T52 904 106 ≤ 9 := hHT52.c _ _
    have w2840 : 0 ≤ Xi T52 904 108 ∧ Xi T52 904 108 ≤ 2600 := hHT52.c _ _
    have w2841 : -1 ≤ Xi T52 904 115 ∧ Xi T52 904 115 ≤ 15 := hHT52.c _ _
    have w2842 : -1 ≤ Xi T52 904 116 ∧ Xi T52 904 116 ≤ 15 := hHT52.c _ _
    have w2843 : 0 ≤ Xi T52 904 117 ∧ Xi T52 904 117 ≤ 480 := hHT52.c _ _
    have w2844 : 0 ≤ Xi T52 904 142 ∧ Xi T52 904 142 ≤ 4 := hHT52.c _ _
    have w2845 : -1 ≤ Xi T52 904 60 ∧ Xi T52 904 60 ≤ 23 := hHT52.c _ _
    have w2846 : 0 ≤ Xi T52 904 69 ∧ Xi T52 904 69 ≤ 2600 := hHT52.c _ _
    have w2847 : 0 ≤ Xi T52 904 70 ∧ Xi T52 904 70 ≤ 20 := hHT52.c _ _
    have w2848 : 0 ≤ Xi T52 904 71 ∧ Xi T52 904 71 ≤ 2600 := hHT52.c _ _
    have w2849 : 0 ≤ Xi T52 904 72 ∧ Xi T52 904 72 ≤ 2600 := hHT52.c _ _
    have w2850 : 0 ≤ Xi T52 904 73 ∧ Xi T52 904 73 ≤ 5 := hHT52.c _ _
    have w2851 : 0 ≤ Xi T52 904 74 ∧ Xi T52 904 74 ≤ 2600 := hHT52.c _ _
    have w2852 : -2 ≤ Xi T52 904 78 ∧ Xi T52 904 78 ≤ 5010 := hHT52.c _ _
    have w2853 : 0 ≤ Xi T52 904 81 ∧ Xi T52 904 81 ≤ 5010 := hHT52.c _ _
    have w2854 : 0 ≤ Xi T52 904 94 ∧ Xi T52 904 94 ≤ 1700 := hHT52.c _ _
    have w2855 : 0 ≤ Xi T52 904 98 ∧ Xi T52 904 98 ≤ 1700 := hHT52.c _ _
    refine l_callV rfl rfl rfl (t_mo_need hHT52 0 4 (Xi T52 950 ((2 : Int).toNat)) ⟨by omega, by omega⟩ ⟨by omega, by omega⟩ ⟨by omega, by omega⟩ _) ?_
    rintro _ T53 ⟨hHT53, w2859, rfl, w2856, w2857⟩
    have hFT53 : FR md_mo_asked S T53 := FR.tr hFT52 w2859 rfl
    show Rl _ _ _ _ _ [] _ _
    have y512_69 : Xi T53 904 69 = Xi T52 904 69 := ((show Xi T53 904 69 = Xi T52 904 69 from w2859.x _ _ rfl))
    have y512_70 : Xi T53 904 70 = Xi T52 904 70 := ((show Xi T53 904 70 = Xi T52 904 70 from w2859.x _ _ rfl))
    have y512_71 : Xi T53 904 71 = Xi T52 904 71 := ((show Xi T53 904 71 = Xi T52 904 71 from w2859.x _ _ rfl))
    have y512_72 : Xi T53 904 72 = Xi T52 904 72 := ((show Xi T53 904 72 = Xi T52 904 72 from w2859.x _ _ rfl))
    have y512_73 : Xi T53 904 73 = Xi T52 904 73 := ((show Xi T53 904 73 = Xi T52 904 73 from w2859.x _ _ rfl))
    have y512_74 : Xi T53 904 74 = Xi T52 904 74 := ((show Xi T53 904 74 = Xi T52 904 74 from w2859.x _ _ rfl))
    have y512_78 : Xi T53 904 78 = Xi T52 904 78 := ((show Xi T53 904 78 = Xi T52 904 78 from w2859.x _ _ rfl))
    have y512_81 : Xi T53 904 81 = Xi T52 904 81 := ((show Xi T53 904 81 = Xi T52 904 81 from w2859.x _ _ rfl))
    have y512_94 : Xi T53 904 94 = Xi T52 904 94 := ((show Xi T53 904 94 = Xi T52 904 94 from w2859.x _ _ rfl))
    have y512_98 : Xi T53 904 98 = Xi T52 904 98 := ((show Xi T53 904 98 = Xi T52 904 98 from w2859.x _ _ rfl))
    have y512_60 : Xi T53 904 60 = Xi T52 904 60 := ((show Xi T53 904 60 = Xi T52 904 60 from w2859.x _ _ rfl))
    have y512_117 : Xi T53 904 117 = Xi T52 904 117 := ((show Xi T53 904 117 = Xi T52 904 117 from w2859.x _ _ rfl))
    have u512_41 : Xi T53 904 41 = Xi S 904 41 := hFT53.x 904 41 rfl
    have F512 : Xi T53 904 106 = 0 → DOK T53 := fun q => dok_19 (by omega) (⟨by have t := G490 (by omega); omega, by rw [(hFT53.cx 951 rfl _).1]; exact (G490 (by omega)).2, by rw [r2R_FR hFT53 rfl rfl]; exact E490 (by omega), by rw [r2R_FR hFT53 rfl rfl]; omega⟩)
    refine l_goto rfl rfl ?_
    refine l_return rfl rfl ?_
    have w2860 : 0 ≤ Xi T53 904 106 ∧ Xi T53 904 106 ≤ 9 := hHT53.c _ _
    have w2861 : Xi T53 904 108 = Xi T52 904 108 := (show Xi T53 904 108 = Xi T52 904 108 from w2859.x _ _ rfl)
    have w2862 : 0 ≤ Xi T52 904 108 ∧ Xi T52 904 108 ≤ 2600 := hHT52.c _ _
    have w2863 : Xi T53 904 109 = Xi T52 904 109 := (show Xi T53 904 109 = Xi T52 904 109 from w2859.x _ _ rfl)
    have w2864 : Xi T53 904 115 = Xi T52 904 115 := (show Xi T53 904 115 = Xi T52 904 115 from w2859.x _ _ rfl)
    have w2865 : -1 ≤ Xi T52 904 115 ∧ Xi T52 904 115 ≤ 15 := hHT52.c _ _
    have w2866 : Xi T53 904 116 = Xi T52 904 116 := (show Xi T53 904 116 = Xi T52 904 116 from w2859.x _ _ rfl)
    have w2867 : -1 ≤ Xi T52 904 116 ∧ Xi T52 904 116 ≤ 15 := hHT52.c _ _
    have w2868 : Xi T53 904 117 = Xi T52 904 117 := (show Xi T53 904 117 = Xi T52 904 117 from w2859.x _ _ rfl)
    have w2869 : 0 ≤ Xi T52 904 117 ∧ Xi T52 904 117 ≤ 480 := hHT52.c _ _
    have w2870 : Xi T53 904 142 = Xi T52 904 142 := (show Xi T53 904 142 = Xi T52 904 142 from w2859.x _ _ rfl)
    have w2871 : 0 ≤ Xi T52 904 142 ∧ Xi T52 904 142 ≤ 4 := hHT52.c _ _
    have w2872 : Xi T53 904 60 = Xi T52 904 60 := (show Xi T53 904 60 = Xi T52 904 60 from w2859.x _ _ rfl)
    have w2873 : -1 ≤ Xi T52 904 60 ∧ Xi T52 904 60 ≤ 23 := hHT52.c _ _
    have w2874 : Xi T53 904 69 = Xi T52 904 69 := (show Xi T53 904 69 = Xi T52 904 69 from w2859.x _ _ rfl)
    have w2875 : 0 ≤ Xi T52 904 69 ∧ Xi T52 904 69 ≤ 2600 := hHT52.c _ _
    have w2876 : Xi T53 904 70 = Xi T52 904 70 := (show Xi T53 904 70 = Xi T52 904 70 from w2859.x _ _ rfl)
    have w2877 : 0 ≤ Xi T52 904 70 ∧ Xi T52 904 70 ≤ 20 := hHT52.c _ _
    have w2878 : Xi T53 904 71 = Xi T52 904 71 := (show Xi T53 904 71 = Xi T52 904 71 from w2859.x _ _ rfl)
    have w2879 : 0 ≤ Xi T52 904 71 ∧ Xi T52 904 71 ≤ 2600 := hHT52.c _ _
    have w2880 : Xi T53 904 72 = Xi T52 904 72 := (show Xi T53 904 72 = Xi T52 904 72 from w2859.x _ _ rfl)
    have w2881 : 0 ≤ Xi T52 904 72 ∧ Xi T52 904 72 ≤ 2600 := hHT52.c _ _
    have w2882 : Xi T53 904 73 = Xi T52 904 73 := (show Xi T53 904 73 = Xi T52 904 73 from w2859.x _ _ rfl)
    have w2883 : 0 ≤ Xi T52 904 73 ∧ Xi T52 904 73 ≤ 5 := hHT52.c _ _
    have w2884 : Xi T53 904 74 = Xi T52 904 74 := (show Xi T53 904 74 = Xi T52 904 74 from w2859.x _ _ rfl)
    have w2885 : 0 ≤ Xi T52 904 74 ∧ Xi T52 904 74 ≤ 2600 := hHT52.c _ _
    have w2886 : Xi T53 904 78 = Xi T52 904 78 := (show Xi T53 904 78 = Xi T52 904 78 from w2859.x _ _ rfl)
    have w2887 : -2 ≤ Xi T52 904 78 ∧ Xi T52 904 78 ≤ 5010 := hHT52.c _ _
    have w2888 : Xi T53 904 81 = Xi T52 904 81 := (show Xi T53 904 81 = Xi T52 904 81 from w2859.x _ _ rfl)
    have w2889 : 0 ≤ Xi T52 904 81 ∧ Xi T52 904 81 ≤ 5010 := hHT52.c _ _
    have w2890 : Xi T53 904 94 = Xi T52 904 94 := (show Xi T53 904 94 = Xi T52 904 94 from w2859.x _ _ rfl)
    have w2891 : 0 ≤ Xi T52 904 94 ∧ Xi T52 904 94 ≤ 1700 := hHT52.c _ _
    have w2892 : Xi T53 904 98 = Xi T52 904 98 := (show Xi T53 904 98 = Xi T52 904 98 from w2859.x _ _ rfl)
    have w2893 : 0 ≤ Xi T52 904 98 ∧ Xi T52 904 98 ≤ 1700 := hHT52.c _ _
    exact ⟨hHT53, hFT53, rfl, (by assumption), (by first | exact fun q => by assumption | assumption | exact fun q => (RDT_FR hHT52 w2859 rfl rfl rfl (by assumption : RDT T52)))⟩
  · refine l_iconst rfl ?_
    refine l_goto rfl rfl ?_
    refine l_iconst rfl ?_
    refine l_aload_n rfl rfl ?_
    refine l_gfr rfl rfl rfl rfl rfl (hHT52.r 904 67 950 rfl) ?_
    refine l_iconst rfl ?_
    refine l_iaload (n := 2600) rfl rfl (by omega) (by omega) (by unfold rg; omega) ?_
    have w2894 : 0 ≤ (Xi T52 950 ((2 : Int).toNat)) ∧ (Xi T52 950 ((2 : Int).toNat)) ≤ 5010 := hHT52.c _ _
    have w2895 : (Xi T52 950 ((2 : Int).toNat)) = Xi T52 950 2 := rfl
    have e511 : (Xi T52 950 ((2 : Int).toNat)) = Xi S 950 2 := by first | rfl | exact (hFT52.cx 950 rfl _).1
    have w2896 : 0 ≤ Xi T52 904 106 ∧ Xi T52 904 106 ≤ 9 := hHT52.c _ _
    have w2897 : 0 ≤ Xi T52 904 108 ∧ Xi T52 904 108 ≤ 2600 := hHT52.c _ _
    have w2898 : -1 ≤ Xi T52 904 115 ∧ Xi T52 904 115 ≤ 15 := hHT52.c _ _
    have w2899 : -1 ≤ Xi T52 904 116 ∧ Xi T52 904 116 ≤ 15 := hHT52.c _ _
    have w2900 : 0 ≤ Xi T52 904 117 ∧ Xi T52 904 117 ≤ 480 := hHT52.c _ _
    have w2901 : 0 ≤ Xi T52 904 142 ∧ Xi T52 904 142 ≤ 4 := hHT52.c _ _
    have w2902 : -1 ≤ Xi T52 904 60 ∧ Xi T52 904 60 ≤ 23 := hHT52.c _ _
    have w2903 : 0 ≤ Xi T52 904 69 ∧ Xi T52 904 69 ≤ 2600 := hHT52.c _ _
    have w2904 : 0 ≤ Xi T52 904 70 ∧ Xi T52 904 70 ≤ 20 := hHT52.c _ _
    have w2905 : 0 ≤ Xi T52 904 71 ∧ Xi T52 904 71 ≤ 2600 := hHT52.c _ _
    have w2906 : 0 ≤ Xi T52 904 72 ∧ Xi T52 904 72 ≤ 2600 := hHT52.c _ _
    have w2907 : 0 ≤ Xi T52 904 73 ∧ Xi T52 904 73 ≤ 5 := hHT52.c _ _
    have w2908 : 0 ≤ Xi T52 904 74 ∧ Xi T52 904 74 ≤ 2600 := hHT52.c _ _
    have w2909 : -2 ≤ Xi T52 904 78 ∧ Xi T52 904 78 ≤ 5010 := hHT52.c _ _
    have w2910 : 0 ≤ Xi T52 904 81 ∧ Xi T52 904 81 ≤ 5010 := hHT52.c _ _
    have w2911 : 0 ≤ Xi T52 904 94 ∧ Xi T52 904 94 ≤ 1700 := hHT52.c _ _
    have w2912 : 0 ≤ Xi T52 904 98 ∧ Xi T52 904 98 ≤ 1700 := hHT52.c _ _
    refine l_callV rfl rfl rfl (t_mo_need hHT52 1 4 (Xi T52 950 ((2 : Int).toNat)) ⟨by omega, by omega⟩ ⟨by omega, by omega⟩ ⟨by omega, by omega⟩ _) ?_
    rintro _ T54 ⟨hHT54, w2916, rfl, w2913, w2914⟩
    have hFT54 : FR md_mo_asked S T54 := FR.tr hFT52 w2916 rfl
    show Rl _ _ _ _ _ [] _ _
    have y512_69 : Xi T54 904 69 = Xi T52 904 69 := ((show Xi T54 904 69 = Xi T52 904 69 from w2916.x _ _ rfl))
    have y512_70 : Xi T54 904 70 = Xi T52 904 70 := ((show Xi T54 904 70 = Xi T52 904 70 from w2916.x _ _ rfl))
    have y512_71 : Xi T54 904 71 = Xi T52 904 71 := ((show Xi T54 904 71 = Xi T52 904 71 from w2916.x _ _ rfl))
    have y512_72 : Xi T54 904 72 = Xi T52 904 72 := ((show Xi T54 904 72 = Xi T52 904 72 from w2916.x _ _ rfl))
    have y512_73 : Xi T54 904 73 = Xi T52 904 73 := ((show Xi T54 904 73 = Xi T52 904 73 from w2916.x _ _ rfl))
    have y512_74 : Xi T54 904 74 = Xi T52 904 74 := ((show Xi T54 904 74 = Xi T52 904 74 from w2916.x _ _ rfl))
    have y512_78 : Xi T54 904 78 = Xi T52 904 78 := ((show Xi T54 904 78 = Xi T52 904 78 from w2916.x _ _ rfl))
    have y512_81 : Xi T54 904 81 = Xi T52 904 81 := ((show Xi T54 904 81 = Xi T52 904 81 from w2916.x _ _ rfl))
    have y512_94 : Xi T54 904 94 = Xi T52 904 94 := ((show Xi T54 904 94 = Xi T52 904 94 from w2916.x _ _ rfl))
    have y512_98 : Xi T54 904 98 = Xi T52 904 98 := ((show Xi T54 904 98 = Xi T52 904 98 from w2916.x _ _ rfl))
    have y512_60 : Xi T54 904 60 = Xi T52 904 60 := ((show Xi T54 904 60 = Xi T52 904 60 from w2916.x _ _ rfl))
    have y512_117 : Xi T54 904 117 = Xi T52 904 117 := ((show Xi T54 904 117 = Xi T52 904 117 from w2916.x _ _ rfl))
    have u512_41 : Xi T54 904 41 = Xi S 904 41 := hFT54.x 904 41 rfl
    have F512 : Xi T54 904 106 = 0 → DOK T54 := fun q => dok_19 (by omega) (⟨by have t := G490 (by omega); omega, by rw [(hFT54.cx 951 rfl _).1]; exact (G490 (by omega)).2, by rw [r2R_FR hFT54 rfl rfl]; exact E490 (by omega), by rw [r2R_FR hFT54 rfl rfl]; omega⟩)
    refine l_goto rfl rfl ?_
    refine l_return rfl rfl ?_
    have w2917 : 0 ≤ Xi T54 904 106 ∧ Xi T54 904 106 ≤ 9 := hHT54.c _ _
    have w2918 : Xi T54 904 108 = Xi T52 904 108 := (show Xi T54 904 108 = Xi T52 904 108 from w2916.x _ _ rfl)
    have w2919 : 0 ≤ Xi T52 904 108 ∧ Xi T52 904 108 ≤ 2600 := hHT52.c _ _
    have w2920 : Xi T54 904 109 = Xi T52 904 109 := (show Xi T54 904 109 = Xi T52 904 109 from w2916.x _ _ rfl)
    have w2921 : Xi T54 904 115 = Xi T52 904 115 := (show Xi T54 904 115 = Xi T52 904 115 from w2916.x _ _ rfl)
    have w2922 : -1 ≤ Xi T52 904 115 ∧ Xi T52 904 115 ≤ 15 := hHT52.c _ _
    have w2923 : Xi T54 904 116 = Xi T52 904 116 := (show Xi T54 904 116 = Xi T52 904 116 from w2916.x _ _ rfl)
    have w2924 : -1 ≤ Xi T52 904 116 ∧ Xi T52 904 116 ≤ 15 := hHT52.c _ _
    have w2925 : Xi T54 904 117 = Xi T52 904 117 := (show Xi T54 904 117 = Xi T52 904 117 from w2916.x _ _ rfl)
    have w2926 : 0 ≤ Xi T52 904 117 ∧ Xi T52 904 117 ≤ 480 := hHT52.c _ _
    have w2927 : Xi T54 904 142 = Xi T52 904 142 := (show Xi T54 904 142 = Xi T52 904 142 from w2916.x _ _ rfl)
    have w2928 : 0 ≤ Xi T52 904 142 ∧ Xi T52 904 142 ≤ 4 := hHT52.c _ _
    have w2929 : Xi T54 904 60 = Xi T52 904 60 := (show Xi T54 904 60 = Xi T52 904 60 from w2916.x _ _ rfl)
    have w2930 : -1 ≤ Xi T52 904 60 ∧ Xi T52 904 60 ≤ 23 := hHT52.c _ _
    have w2931 : Xi T54 904 69 = Xi T52 904 69 := (show Xi T54 904 69 = Xi T52 904 69 from w2916.x _ _ rfl)
    have w2932 : 0 ≤ Xi T52 904 69 ∧ Xi T52 904 69 ≤ 2600 := hHT52.c _ _
    have w2933 : Xi T54 904 70 = Xi T52 904 70 := (show Xi T54 904 70 = Xi T52 904 70 from w2916.x _ _ rfl)
    have w2934 : 0 ≤ Xi T52 904 70 ∧ Xi T52 904 70 ≤ 20 := hHT52.c _ _
    have w2935 : Xi T54 904 71 = Xi T52 904 71 := (show Xi T54 904 71 = Xi T52 904 71 from w2916.x _ _ rfl)
    have w2936 : 0 ≤ Xi T52 904 71 ∧ Xi T52 904 71 ≤ 2600 := hHT52.c _ _
    have w2937 : Xi T54 904 72 = Xi T52 904 72 := (show Xi T54 904 72 = Xi T52 904 72 from w2916.x _ _ rfl)
    have w2938 : 0 ≤ Xi T52 904 72 ∧ Xi T52 904 72 ≤ 2600 := hHT52.c _ _
    have w2939 : Xi T54 904 73 = Xi T52 904 73 := (show Xi T54 904 73 = Xi T52 904 73 from w2916.x _ _ rfl)
    have w2940 : 0 ≤ Xi T52 904 73 ∧ Xi T52 904 73 ≤ 5 := hHT52.c _ _
    have w2941 : Xi T54 904 74 = Xi T52 904 74 := (show Xi T54 904 74 = Xi T52 904 74 from w2916.x _ _ rfl)
    have w2942 : 0 ≤ Xi T52 904 74 ∧ Xi T52 904 74 ≤ 2600 := hHT52.c _ _
    have w2943 : Xi T54 904 78 = Xi T52 904 78 := (show Xi T54 904 78 = Xi T52 904 78 from w2916.x _ _ rfl)
    have w2944 : -2 ≤ Xi T52 904 78 ∧ Xi T52 904 78 ≤ 5010 := hHT52.c _ _
    have w2945 : Xi T54 904 81 = Xi T52 904 81 := (show Xi T54 904 81 = Xi T52 904 81 from w2916.x _ _ rfl)
    have w2946 : 0 ≤ Xi T52 904 81 ∧ Xi T52 904 81 ≤ 5010 := hHT52.c _ _
    have w2947 : Xi T54 904 94 = Xi T52 904 94 := (show Xi T54 904 94 = Xi T52 904 94 from w2916.x _ _ rfl)
    have w2948 : 0 ≤ Xi T52 904 94 ∧ Xi T52 904 94 ≤ 1700 := hHT52.c _ _
    have w2949 : Xi T54 904 98 = Xi T52 904 98 := (show Xi T54 904 98 = Xi T52 904 98 from w2916.x _ _ rfl)
    have w2950 : 0 ≤ Xi T52 904 98 ∧ Xi T52 904 98 ≤ 1700 := hHT52.c _ _
    exact ⟨hHT54, hFT54, rfl, (by assumption), (by first | exact fun q => by assumption | assumption | exact fun q => (RDT_FR hHT52 w2916 rfl rfl rfl (by assumption : RDT T52)))⟩


