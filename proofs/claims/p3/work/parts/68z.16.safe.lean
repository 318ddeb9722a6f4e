/-! SAFETY of methods: printed by wip/safe (vc.py, decl.py) -/
set_option maxRecDepth 100000 in
set_option maxHeartbeats 8000000 in
theorem c454_mo_asked {S : sS} (hH : HI S) (n : Nat) (dd : Nat) (first : Int) (hfirst : 0 ≤ first ∧ first ≤ 5001) (hT : TK S n) (hv : RNV S n) (hM : LXM S) (hB : ABV S) (hC : DCM S) (hK : TXK S n) (hX : TXM S) (hq : SNQ S n) (hap : AP9 S n) (h94 : Xi S 904 94 ≤ 1668) (hRD : RDT S) (hPF : PF S) (hdt : Xi S 904 70 = 20 → first ≤ dd ∧ dd < n ∧ Xi S 907 dd = 46) (d : Nat) : ∀  (T55 : sS) (_ : HI T55) (_ : FR md_mo_asked S T55), (Xi T55 904 117 = Xi S 904 117) → (Xi T55 904 69 = Xi S 904 69) → (Xi T55 904 70 = Xi S 904 70) → (Xi T55 904 71 = Xi S 904 71) → (Xi T55 904 72 = Xi S 904 72) → (Xi T55 904 73 = Xi S 904 73) → (Xi T55 904 74 = Xi S 904 74) → (Xi T55 904 78 = Xi S 904 78) → (Xi T55 904 81 = Xi S 904 81) → (Xi T55 904 94 = Xi S 904 94) → (Xi T55 904 98 = Xi S 904 98) → (Xi T55 904 60 = Xi S 904 60) → (Xi T55 904 106 = 0) → (Xi T55 904 108 = 0) → (Xi T55 904 115 = -1) → (Xi T55 904 116 = -1) → (SNQ T55 n) → (RDT T55) → (KQL T55 S (Xi S 904 117)) → (Xi S 904 70 = 19) → Rl lay0 (d + 12) m_mo_asked 454 [(0, .ref 904)] [] T55 (Q_mo_asked S n dd first) := by
  have C490 := c490_mo_asked hH n dd first hfirst hT hv hM hB hC hK hX hq hap h94 hRD hPF hdt d 
  have hF : FR md_mo_asked S S := FR.rf
  have w1 : 0 ≤ Xi S 904 106 ∧ Xi S 904 106 ≤ 9 := hH.c _ _
  have w2 : 0 ≤ Xi S 904 108 ∧ Xi S 904 108 ≤ 2600 := hH.c _ _
  have w3 : -1 ≤ Xi S 904 115 ∧ Xi S 904 115 ≤ 15 := hH.c _ _
  have w4 : -1 ≤ Xi S 904 116 ∧ Xi S 904 116 ≤ 15 := hH.c _ _
  have w5 : 0 ≤ Xi S 904 117 ∧ Xi S 904 117 ≤ 480 := hH.c _ _
  have w6 : 0 ≤ Xi S 904 23 ∧ Xi S 904 23 ≤ 24 := hH.c _ _
  have w7 : 0 ≤ Xi S 904 41 ∧ Xi S 904 41 ≤ 6 := hH.c _ _
  have w8 : -1 ≤ Xi S 904 60 ∧ Xi S 904 60 ≤ 23 := hH.c _ _
  have w9 : 0 ≤ Xi S 904 69 ∧ Xi S 904 69 ≤ 2600 := hH.c _ _
  have w10 : 0 ≤ Xi S 904 70 ∧ Xi S 904 70 ≤ 20 := hH.c _ _
  have w11 : 0 ≤ Xi S 904 71 ∧ Xi S 904 71 ≤ 2600 := hH.c _ _
  have w12 : 0 ≤ Xi S 904 72 ∧ Xi S 904 72 ≤ 2600 := hH.c _ _
  have w13 : 0 ≤ Xi S 904 73 ∧ Xi S 904 73 ≤ 5 := hH.c _ _
  have w14 : 0 ≤ Xi S 904 74 ∧ Xi S 904 74 ≤ 2600 := hH.c _ _
  have w15 : -2 ≤ Xi S 904 78 ∧ Xi S 904 78 ≤ 5010 := hH.c _ _
  have w16 : 0 ≤ Xi S 904 81 ∧ Xi S 904 81 ≤ 5010 := hH.c _ _
  have w17 : 0 ≤ Xi S 904 94 ∧ Xi S 904 94 ≤ 1700 := hH.c _ _
  have w18 : 0 ≤ Xi S 904 98 ∧ Xi S 904 98 ≤ 1700 := hH.c _ _
  have w19 : 0 ≤ Xi S 951 0 ∧ Xi S 951 0 ≤ 5010 := hH.c _ _
  have w20 : 0 ≤ Xi S 951 1 ∧ Xi S 951 1 ≤ 5010 := hH.c _ _
  have hn5 := hT.1
  have hc69 : 0 ≤ Xi S 904 69 ∧ Xi S 904 69 ≤ 2600 := hH.c _ _
  have hc70 : 0 ≤ Xi S 904 70 ∧ Xi S 904 70 ≤ 20 := hH.c _ _
  have hc23 : 0 ≤ Xi S 904 23 ∧ Xi S 904 23 ≤ 24 := hH.c _ _
  have hrf : ∀ r : Int, 0 ≤ r → r < Xi S 904 69 → Xi S 950 r.toNat + Xi S 951 r.toNat ≤ n ∧ 1 ≤ Xi S 951 r.toNat := fun r a b => hv r.toNat (by omega)
  have hq0 : KQL S S (Xi S 904 117) := KQL.rf
  intro T55 hHT55 hFT55 w2951 w2952 w2953 w2954 w2955 w2956 w2957 w2958 w2959 w2960 w2961 w2962 w2963 w2964 w2965 w2966 q20 r20 K20 w2967
  have w2968 : Xi T55 904 102 = Xi S 904 102 := hFT55.x _ _ rfl
  have w2969 : Xi T55 904 103 = Xi S 904 103 := hFT55.x _ _ rfl
  have w2970 : Xi T55 904 16 = Xi S 904 16 := hFT55.x _ _ rfl
  have w2971 : Xi T55 904 18 = Xi S 904 18 := hFT55.x _ _ rfl
  have w2972 : Xi T55 904 19 = Xi S 904 19 := hFT55.x _ _ rfl
  have w2973 : Xi T55 904 23 = Xi S 904 23 := hFT55.x _ _ rfl
  have w2974 : Xi T55 904 30 = Xi S 904 30 := hFT55.x _ _ rfl
  have w2975 : Xi T55 904 41 = Xi S 904 41 := hFT55.x _ _ rfl
  have w2976 : Xi T55 904 47 = Xi S 904 47 := hFT55.x _ _ rfl
  have w2977 : Xi T55 904 49 = Xi S 904 49 := hFT55.x _ _ rfl
  have w2978 : Xi T55 904 55 = Xi S 904 55 := hFT55.x _ _ rfl
  have w2979 : Xi T55 904 60 = Xi S 904 60 := hFT55.x _ _ rfl
  have w2980 : Xi T55 904 69 = Xi S 904 69 := hFT55.x _ _ rfl
  have w2981 : Xi T55 904 70 = Xi S 904 70 := hFT55.x _ _ rfl
  have w2982 : Xi T55 904 71 = Xi S 904 71 := hFT55.x _ _ rfl
  have w2983 : Xi T55 904 72 = Xi S 904 72 := hFT55.x _ _ rfl
  have w2984 : Xi T55 904 73 = Xi S 904 73 := hFT55.x _ _ rfl
  have w2985 : Xi T55 904 74 = Xi S 904 74 := hFT55.x _ _ rfl
  have w2986 : Xi T55 904 78 = Xi S 904 78 := hFT55.x _ _ rfl
  have w2987 : Xi T55 904 81 = Xi S 904 81 := hFT55.x _ _ rfl
  have w2988 : Xi T55 904 94 = Xi S 904 94 := hFT55.x _ _ rfl
  have w2989 : Xi T55 904 98 = Xi S 904 98 := hFT55.x _ _ rfl
  have w2990 : Xi T55 951 0 = Xi S 951 0 := hFT55.x _ _ rfl
  have w2991 : Xi T55 951 1 = Xi S 951 1 := hFT55.x _ _ rfl
  have w2992 : 0 ≤ Xi T55 904 106 ∧ Xi T55 904 106 ≤ 9 := hHT55.c _ _
  have w2993 : 0 ≤ Xi T55 904 108 ∧ Xi T55 904 108 ≤ 2600 := hHT55.c _ _
  have w2994 : -1 ≤ Xi T55 904 115 ∧ Xi T55 904 115 ≤ 15 := hHT55.c _ _
  have w2995 : -1 ≤ Xi T55 904 116 ∧ Xi T55 904 116 ≤ 15 := hHT55.c _ _
  have w2996 : 0 ≤ Xi T55 904 117 ∧ Xi T55 904 117 ≤ 480 := hHT55.c _ _
  have w2997 : -1 ≤ Xi T55 904 60 ∧ Xi T55 904 60 ≤ 23 := hHT55.c _ _
  have w2998 : 0 ≤ Xi T55 904 69 ∧ Xi T55 904 69 ≤ 2600 := hHT55.c _ _
  have w2999 : 0 ≤ Xi T55 904 70 ∧ Xi T55 904 70 ≤ 20 := hHT55.c _ _
  have w3000 : 0 ≤ Xi T55 904 71 ∧ Xi T55 904 71 ≤ 2600 := hHT55.c _ _
  have w3001 : 0 ≤ Xi T55 904 72 ∧ Xi T55 904 72 ≤ 2600 := hHT55.c _ _
  have w3002 : 0 ≤ Xi T55 904 73 ∧ Xi T55 904 73 ≤ 5 := hHT55.c _ _
  have w3003 : 0 ≤ Xi T55 904 74 ∧ Xi T55 904 74 ≤ 2600 := hHT55.c _ _
  have w3004 : -2 ≤ Xi T55 904 78 ∧ Xi T55 904 78 ≤ 5010 := hHT55.c _ _
  have w3005 : 0 ≤ Xi T55 904 81 ∧ Xi T55 904 81 ≤ 5010 := hHT55.c _ _
  have w3006 : 0 ≤ Xi T55 904 94 ∧ Xi T55 904 94 ≤ 1700 := hHT55.c _ _
  have w3007 : 0 ≤ Xi T55 904 98 ∧ Xi T55 904 98 ≤ 1700 := hHT55.c _ _
  refine l_aload_n rfl rfl ?_
  have s454 := q20.2.2.2.2.2.2.2.2.2 (by omega)
  have z454_0 : Xi S 950 0 + Xi S 951 0 ≤ n := (hv 0 (by omega)).1
  have z454_1 : Xi S 950 1 + Xi S 951 1 ≤ n := (hv 1 (by omega)).1
  have z454_2 : Xi S 950 2 + Xi S 951 2 ≤ n := (hv 2 (by omega)).1
  refine l_iconst rfl ?_
  refine l_aload_n rfl rfl ?_
  refine l_gfi rfl rfl rfl rfl rfl ?_
  refine l_bipush rfl rfl ?_
  have w3008 : 0 ≤ Xi T55 904 106 ∧ Xi T55 904 106 ≤ 9 := hHT55.c _ _
  have w3009 : 0 ≤ Xi T55 904 108 ∧ Xi T55 904 108 ≤ 2600 := hHT55.c _ _
  have w3010 : -1 ≤ Xi T55 904 115 ∧ Xi T55 904 115 ≤ 15 := hHT55.c _ _
  have w3011 : -1 ≤ Xi T55 904 116 ∧ Xi T55 904 116 ≤ 15 := hHT55.c _ _
  have w3012 : 0 ≤ Xi T55 904 117 ∧ Xi T55 904 117 ≤ 480 := hHT55.c _ _
  have w3013 : 0 ≤ Xi T55 904 142 ∧ Xi T55 904 142 ≤ 4 := hHT55.c _ _
  have w3014 : -1 ≤ Xi T55 904 60 ∧ Xi T55 904 60 ≤ 23 := hHT55.c _ _
  have w3015 : 0 ≤ Xi T55 904 69 ∧ Xi T55 904 69 ≤ 2600 := hHT55.c _ _
  have w3016 : 0 ≤ Xi T55 904 70 ∧ Xi T55 904 70 ≤ 20 := hHT55.c _ _
  have w3017 : 0 ≤ Xi T55 904 71 ∧ Xi T55 904 71 ≤ 2600 := hHT55.c _ _
  have w3018 : 0 ≤ Xi T55 904 72 ∧ Xi T55 904 72 ≤ 2600 := hHT55.c _ _
  have w3019 : 0 ≤ Xi T55 904 73 ∧ Xi T55 904 73 ≤ 5 := hHT55.c _ _
  have w3020 : 0 ≤ Xi T55 904 74 ∧ Xi T55 904 74 ≤ 2600 := hHT55.c _ _
  have w3021 : -2 ≤ Xi T55 904 78 ∧ Xi T55 904 78 ≤ 5010 := hHT55.c _ _
  have w3022 : 0 ≤ Xi T55 904 81 ∧ Xi T55 904 81 ≤ 5010 := hHT55.c _ _
  have w3023 : 0 ≤ Xi T55 904 94 ∧ Xi T55 904 94 ≤ 1700 := hHT55.c _ _
  have w3024 : 0 ≤ Xi T55 904 98 ∧ Xi T55 904 98 ≤ 1700 := hHT55.c _ _
  refine l_callV rfl rfl rfl (t_mo_mustBeNew__2 hHT55 n 0 (Xi T55 904 41) 6 ⟨by omega, by omega⟩ ⟨by omega, by omega⟩ ⟨by omega, by omega⟩ (by first | assumption | exact (TK_FR hFT55 rfl (by assumption : TK S _))) (by first | assumption | exact (RNV_FR hFT55 rfl (by assumption : RNV S _))) (by first | assumption | omega) (by first | assumption | exact fun k hk => absurd hk (by omega) | exact (by assumption : NWV T55)) (by first | assumption | omega) _) ?_
  rintro _ T56 ⟨hHT56, w3030, rfl, w3025, g462, w3026, w3027, w3028⟩
  have hFT56 : FR md_mo_asked S T56 := FR.tr hFT55 w3030 rfl
  show Rl _ _ _ _ _ [] _ _
  have G462 : Xi T56 904 106 = 0 → Xi S 904 41 < 6 ∧ Xi S 951 0 ≤ 3 := fun q => (by have t := g462 q; have u := t.2.1; rw [(hFT55.cx 951 rfl _).1] at u; have v : Xi T55 904 41 = Xi S 904 41 := hFT55.x 904 41 rfl; exact ⟨by omega, u⟩)
  refine l_aload_n rfl rfl ?_
  refine l_aload_n rfl rfl ?_
  refine l_iconst rfl ?_
  have w3031 : 0 ≤ Xi T56 904 106 ∧ Xi T56 904 106 ≤ 9 := hHT56.c _ _
  have w3032 : 0 ≤ Xi T56 904 108 ∧ Xi T56 904 108 ≤ 2600 := hHT56.c _ _
  have w3033 : Xi T56 904 109 = Xi T55 904 109 := (show Xi T56 904 109 = Xi T55 904 109 from w3030.x _ _ rfl)
  have w3034 : Xi T56 904 115 = Xi T55 904 115 := (show Xi T56 904 115 = Xi T55 904 115 from w3030.x _ _ rfl)
  have w3035 : -1 ≤ Xi T55 904 115 ∧ Xi T55 904 115 ≤ 15 := hHT55.c _ _
  have w3036 : Xi T56 904 116 = Xi T55 904 116 := (show Xi T56 904 116 = Xi T55 904 116 from w3030.x _ _ rfl)
  have w3037 : -1 ≤ Xi T55 904 116 ∧ Xi T55 904 116 ≤ 15 := hHT55.c _ _
  have w3038 : Xi T56 904 117 = Xi T55 904 117 := (show Xi T56 904 117 = Xi T55 904 117 from w3030.x _ _ rfl)
  have w3039 : 0 ≤ Xi T55 904 117 ∧ Xi T55 904 117 ≤ 480 := hHT55.c _ _
  have w3040 : Xi T56 904 142 = Xi T55 904 142 := (show Xi T56 904 142 = Xi T55 904 142 from w3030.x _ _ rfl)
  have w3041 : 0 ≤ Xi T55 904 142 ∧ Xi T55 904 142 ≤ 4 := hHT55.c _ _
  have w3042 : Xi T56 904 16 = Xi T55 904 16 := (show Xi T56 904 16 = Xi T55 904 16 from w3030.x _ _ rfl)
  have w3043 : 0 ≤ Xi T55 904 16 ∧ Xi T55 904 16 ≤ 16 := hHT55.c _ _
  have w3044 : Xi T56 904 60 = Xi T55 904 60 := (show Xi T56 904 60 = Xi T55 904 60 from w3030.x _ _ rfl)
  have w3045 : -1 ≤ Xi T55 904 60 ∧ Xi T55 904 60 ≤ 23 := hHT55.c _ _
  have w3046 : Xi T56 904 69 = Xi T55 904 69 := (show Xi T56 904 69 = Xi T55 904 69 from w3030.x _ _ rfl)
  have w3047 : 0 ≤ Xi T55 904 69 ∧ Xi T55 904 69 ≤ 2600 := hHT55.c _ _
  have w3048 : Xi T56 904 70 = Xi T55 904 70 := (show Xi T56 904 70 = Xi T55 904 70 from w3030.x _ _ rfl)
  have w3049 : 0 ≤ Xi T55 904 70 ∧ Xi T55 904 70 ≤ 20 := hHT55.c _ _
  have w3050 : Xi T56 904 71 = Xi T55 904 71 := (show Xi T56 904 71 = Xi T55 904 71 from w3030.x _ _ rfl)
  have w3051 : 0 ≤ Xi T55 904 71 ∧ Xi T55 904 71 ≤ 2600 := hHT55.c _ _
  have w3052 : Xi T56 904 72 = Xi T55 904 72 := (show Xi T56 904 72 = Xi T55 904 72 from w3030.x _ _ rfl)
  have w3053 : 0 ≤ Xi T55 904 72 ∧ Xi T55 904 72 ≤ 2600 := hHT55.c _ _
  have w3054 : Xi T56 904 73 = Xi T55 904 73 := (show Xi T56 904 73 = Xi T55 904 73 from w3030.x _ _ rfl)
  have w3055 : 0 ≤ Xi T55 904 73 ∧ Xi T55 904 73 ≤ 5 := hHT55.c _ _
  have w3056 : Xi T56 904 74 = Xi T55 904 74 := (show Xi T56 904 74 = Xi T55 904 74 from w3030.x _ _ rfl)
  have w3057 : 0 ≤ Xi T55 904 74 ∧ Xi T55 904 74 ≤ 2600 := hHT55.c _ _
  have w3058 : Xi T56 904 78 = Xi T55 904 78 := (show Xi T56 904 78 = Xi T55 904 78 from w3030.x _ _ rfl)
  have w3059 : -2 ≤ Xi T55 904 78 ∧ Xi T55 904 78 ≤ 5010 := hHT55.c _ _
  have w3060 : Xi T56 904 81 = Xi T55 904 81 := (show Xi T56 904 81 = Xi T55 904 81 from w3030.x _ _ rfl)
  have w3061 : 0 ≤ Xi T55 904 81 ∧ Xi T55 904 81 ≤ 5010 := hHT55.c _ _
  have w3062 : Xi T56 904 94 = Xi T55 904 94 := (show Xi T56 904 94 = Xi T55 904 94 from w3030.x _ _ rfl)
  have w3063 : 0 ≤ Xi T55 904 94 ∧ Xi T55 904 94 ≤ 1700 := hHT55.c _ _
  have w3064 : Xi T56 904 98 = Xi T55 904 98 := (show Xi T56 904 98 = Xi T55 904 98 from w3030.x _ _ rfl)
  have w3065 : 0 ≤ Xi T55 904 98 ∧ Xi T55 904 98 ≤ 1700 := hHT55.c _ _
  refine l_callV rfl rfl rfl (t_mo_kindOrPlural__2 hHT56 n 1 ⟨by omega, by omega⟩ (by first | assumption | exact (TK_FR hFT56 rfl (by assumption : TK S _))) (by first | assumption | exact (RNV_FR hFT56 rfl (by assumption : RNV S _))) (by first | assumption | omega) (by first | assumption | exact (LXM_FR hFT56 rfl (by assumption : LXM S))) _) ?_
  rintro _ _ ⟨rfl, z3068, rfl, w3068, w3066, w3067⟩
  show Rl _ _ _ _ _ [iv z3068, .ref 904] _ _
  have r468 : z3068 = r2R S 1 0 1 := (by assumption : z3068 = r2R T56 _ _ _).trans (r2R_FR hFT56 rfl rfl)
  refine l_iconst rfl ?_
  refine l_icmp_eq rfl rfl (by unfold rg; omega) (by unfold rg; omega) (fun w3069 => ?_) (fun w3070 => ?_)
  · refine l_iconst rfl ?_
    refine l_iconst rfl ?_
    refine l_aload_n rfl rfl ?_
    refine l_gfr rfl rfl rfl rfl rfl (hHT56.r 904 67 950 rfl) ?_
    refine l_iconst rfl ?_
    refine l_iaload (n := 2600) rfl rfl (by omega) (by omega) (by unfold rg; omega) ?_
    have w3071 : 0 ≤ (Xi T56 950 ((1 : Int).toNat)) ∧ (Xi T56 950 ((1 : Int).toNat)) ≤ 5010 := hHT56.c _ _
    have w3072 : (Xi T56 950 ((1 : Int).toNat)) = Xi T56 950 1 := rfl
    have e486 : (Xi T56 950 ((1 : Int).toNat)) = Xi S 950 1 := by first | rfl | exact (hFT56.cx 950 rfl _).1
    have w3073 : 0 ≤ Xi T56 904 106 ∧ Xi T56 904 106 ≤ 9 := hHT56.c _ _
    have w3074 : 0 ≤ Xi T56 904 108 ∧ Xi T56 904 108 ≤ 2600 := hHT56.c _ _
    have w3075 : Xi T56 904 109 = Xi T55 904 109 := (show Xi T56 904 109 = Xi T55 904 109 from w3030.x _ _ rfl)
    have w3076 : Xi T56 904 115 = Xi T55 904 115 := (show Xi T56 904 115 = Xi T55 904 115 from w3030.x _ _ rfl)
    have w3077 : -1 ≤ Xi T55 904 115 ∧ Xi T55 904 115 ≤ 15 := hHT55.c _ _
    have w3078 : Xi T56 904 116 = Xi T55 904 116 := (show Xi T56 904 116 = Xi T55 904 116 from w3030.x _ _ rfl)
    have w3079 : -1 ≤ Xi T55 904 116 ∧ Xi T55 904 116 ≤ 15 := hHT55.c _ _
    have w3080 : Xi T56 904 117 = Xi T55 904 117 := (show Xi T56 904 117 = Xi T55 904 117 from w3030.x _ _ rfl)
    have w3081 : 0 ≤ Xi T55 904 117 ∧ Xi T55 904 117 ≤ 480 := hHT55.c _ _
    have w3082 : Xi T56 904 142 = Xi T55 904 142 := (show Xi T56 904 142 = Xi T55 904 142 from w3030.x _ _ rfl)
    have w3083 : 0 ≤ Xi T55 904 142 ∧ Xi T55 904 142 ≤ 4 := hHT55.c _ _
    have w3084 : Xi T56 904 60 = Xi T55 904 60 := (show Xi T56 904 60 = Xi T55 904 60 from w3030.x _ _ rfl)
    have w3085 : -1 ≤ Xi T55 904 60 ∧ Xi T55 904 60 ≤ 23 := hHT55.c _ _
    have w3086 : Xi T56 904 69 = Xi T55 904 69 := (show Xi T56 904 69 = Xi T55 904 69 from w3030.x _ _ rfl)
    have w3087 : 0 ≤ Xi T55 904 69 ∧ Xi T55 904 69 ≤ 2600 := hHT55.c _ _
    have w3088 : Xi T56 904 70 = Xi T55 904 70 := (show Xi T56 904 70 = Xi T55 904 70 from w3030.x _ _ rfl)
    have w3089 : 0 ≤ Xi T55 904 70 ∧ Xi T55 904 70 ≤ 20 := hHT55.c _ _
    have w3090 : Xi T56 904 71 = Xi T55 904 71 := (show Xi T56 904 71 = Xi T55 904 71 from w3030.x _ _ rfl)
    have w3091 : 0 ≤ Xi T55 904 71 ∧ Xi T55 904 71 ≤ 2600 := hHT55.c _ _
    have w3092 : Xi T56 904 72 = Xi T55 904 72 := (show Xi T56 904 72 = Xi T55 904 72 from w3030.x _ _ rfl)
    have w3093 : 0 ≤ Xi T55 904 72 ∧ Xi T55 904 72 ≤ 2600 := hHT55.c _ _
    have w3094 : Xi T56 904 73 = Xi T55 904 73 := (show Xi T56 904 73 = Xi T55 904 73 from w3030.x _ _ rfl)
    have w3095 : 0 ≤ Xi T55 904 73 ∧ Xi T55 904 73 ≤ 5 := hHT55.c _ _
    have w3096 : Xi T56 904 74 = Xi T55 904 74 := (show Xi T56 904 74 = Xi T55 904 74 from w3030.x _ _ rfl)
    have w3097 : 0 ≤ Xi T55 904 74 ∧ Xi T55 904 74 ≤ 2600 := hHT55.c _ _
    have w3098 : Xi T56 904 78 = Xi T55 904 78 := (show Xi T56 904 78 = Xi T55 904 78 from w3030.x _ _ rfl)
    have w3099 : -2 ≤ Xi T55 904 78 ∧ Xi T55 904 78 ≤ 5010 := hHT55.c _ _
    have w3100 : Xi T56 904 81 = Xi T55 904 81 := (show Xi T56 904 81 = Xi T55 904 81 from w3030.x _ _ rfl)
    have w3101 : 0 ≤ Xi T55 904 81 ∧ Xi T55 904 81 ≤ 5010 := hHT55.c _ _
    have w3102 : Xi T56 904 94 = Xi T55 904 94 := (show Xi T56 904 94 = Xi T55 904 94 from w3030.x _ _ rfl)
    have w3103 : 0 ≤ Xi T55 904 94 ∧ Xi T55 904 94 ≤ 1700 := hHT55.c _ _
    have w3104 : Xi T56 904 98 = Xi T55 904 98 := (show Xi T56 904 98 = Xi T55 904 98 from w3030.x _ _ rfl)
    have w3105 : 0 ≤ Xi T55 904 98 ∧ Xi T55 904 98 ≤ 1700 := hHT55.c _ _
    refine l_callV rfl rfl rfl (t_mo_need hHT56 0 4 (Xi T56 950 ((1 : Int).toNat)) ⟨by omega, by omega⟩ ⟨by omega, by omega⟩ ⟨by omega, by omega⟩ _) ?_
    rintro _ T57 ⟨hHT57, w3109, rfl, w3106, w3107⟩
    have hFT57 : FR md_mo_asked S T57 := FR.tr hFT56 w3109 rfl
    show Rl _ _ _ _ _ [] _ _
    have w3110 : 0 ≤ Xi T57 904 106 ∧ Xi T57 904 106 ≤ 9 := hHT57.c _ _
    have w3111 : Xi T57 904 108 = Xi T56 904 108 := (show Xi T57 904 108 = Xi T56 904 108 from w3109.x _ _ rfl)
    have w3112 : 0 ≤ Xi T56 904 108 ∧ Xi T56 904 108 ≤ 2600 := hHT56.c _ _
    have w3113 : Xi T57 904 109 = Xi T55 904 109 := (show Xi T57 904 109 = Xi T56 904 109 from w3109.x _ _ rfl).trans ((show Xi T56 904 109 = Xi T55 904 109 from w3030.x _ _ rfl))
    have w3114 : Xi T57 904 115 = Xi T55 904 115 := (show Xi T57 904 115 = Xi T56 904 115 from w3109.x _ _ rfl).trans ((show Xi T56 904 115 = Xi T55 904 115 from w3030.x _ _ rfl))
    have w3115 : -1 ≤ Xi T55 904 115 ∧ Xi T55 904 115 ≤ 15 := hHT55.c _ _
    have w3116 : Xi T57 904 116 = Xi T55 904 116 := (show Xi T57 904 116 = Xi T56 904 116 from w3109.x _ _ rfl).trans ((show Xi T56 904 116 = Xi T55 904 116 from w3030.x _ _ rfl))
    have w3117 : -1 ≤ Xi T55 904 116 ∧ Xi T55 904 116 ≤ 15 := hHT55.c _ _
    have w3118 : Xi T57 904 117 = Xi T55 904 117 := (show Xi T57 904 117 = Xi T56 904 117 from w3109.x _ _ rfl).trans ((show Xi T56 904 117 = Xi T55 904 117 from w3030.x _ _ rfl))
    have w3119 : 0 ≤ Xi T55 904 117 ∧ Xi T55 904 117 ≤ 480 := hHT55.c _ _
    have w3120 : Xi T57 904 142 = Xi T55 904 142 := (show Xi T57 904 142 = Xi T56 904 142 from w3109.x _ _ rfl).trans ((show Xi T56 904 142 = Xi T55 904 142 from w3030.x _ _ rfl))
    have w3121 : 0 ≤ Xi T55 904 142 ∧ Xi T55 904 142 ≤ 4 := hHT55.c _ _
    have w3122 : Xi T57 904 60 = Xi T55 904 60 := (show Xi T57 904 60 = Xi T56 904 60 from w3109.x _ _ rfl).trans ((show Xi T56 904 60 = Xi T55 904 60 from w3030.x _ _ rfl))
    have w3123 : -1 ≤ Xi T55 904 60 ∧ Xi T55 904 60 ≤ 23 := hHT55.c _ _
    have w3124 : Xi T57 904 69 = Xi T55 904 69 := (show Xi T57 904 69 = Xi T56 904 69 from w3109.x _ _ rfl).trans ((show Xi T56 904 69 = Xi T55 904 69 from w3030.x _ _ rfl))
    have w3125 : 0 ≤ Xi T55 904 69 ∧ Xi T55 904 69 ≤ 2600 := hHT55.c _ _
    have w3126 : Xi T57 904 70 = Xi T55 904 70 := (show Xi T57 904 70 = Xi T56 904 70 from w3109.x _ _ rfl).trans ((show Xi T56 904 70 = Xi T55 904 70 from w3030.x _ _ rfl))
    have w3127 : 0 ≤ Xi T55 904 70 ∧ Xi T55 904 70 ≤ 20 := hHT55.c _ _
    have w3128 : Xi T57 904 71 = Xi T55 904 71 := (show Xi T57 904 71 = Xi T56 904 71 from w3109.x _ _ rfl).trans ((show Xi T56 904 71 = Xi T55 904 71 from w3030.x _ _ rfl))
    have w3129 : 0 ≤ Xi T55 904 71 ∧ Xi T55 904 71 ≤ 2600 := hHT55.c _ _
    have w3130 : Xi T57 904 72 = Xi T55 904 72 := (show Xi T57 904 72 = Xi T56 904 72 from w3109.x _ _ rfl).trans ((show Xi T56 904 72 = Xi T55 904 72 from w3030.x _ _ rfl))
    have w3131 : 0 ≤ Xi T55 904 72 ∧ Xi T55 904 72 ≤ 2600 := hHT55.c _ _
    have w3132 : Xi T57 904 73 = Xi T55 904 73 := (show Xi T57 904 73 = Xi T56 904 73 from w3109.x _ _ rfl).trans ((show Xi T56 904 73 = Xi T55 904 73 from w3030.x _ _ rfl))
    have w3133 : 0 ≤ Xi T55 904 73 ∧ Xi T55 904 73 ≤ 5 := hHT55.c _ _
    have w3134 : Xi T57 904 74 = Xi T55 904 74 := (show Xi T57 904 74 = Xi T56 904 74 from w3109.x _ _ rfl).trans ((show Xi T56 904 74 = Xi T55 904 74 from w3030.x _ _ rfl))
    have w3135 : 0 ≤ Xi T55 904 74 ∧ Xi T55 904 74 ≤ 2600 := hHT55.c _ _
    have w3136 : Xi T57 904 78 = Xi T55 904 78 := (show Xi T57 904 78 = Xi T56 904 78 from w3109.x _ _ rfl).trans ((show Xi T56 904 78 = Xi T55 904 78 from w3030.x _ _ rfl))
    have w3137 : -2 ≤ Xi T55 904 78 ∧ Xi T55 904 78 ≤ 5010 := hHT55.c _ _
    have w3138 : Xi T57 904 81 = Xi T55 904 81 := (show Xi T57 904 81 = Xi T56 904 81 from w3109.x _ _ rfl).trans ((show Xi T56 904 81 = Xi T55 904 81 from w3030.x _ _ rfl))
    have w3139 : 0 ≤ Xi T55 904 81 ∧ Xi T55 904 81 ≤ 5010 := hHT55.c _ _
    have w3140 : Xi T57 904 94 = Xi T55 904 94 := (show Xi T57 904 94 = Xi T56 904 94 from w3109.x _ _ rfl).trans ((show Xi T56 904 94 = Xi T55 904 94 from w3030.x _ _ rfl))
    have w3141 : 0 ≤ Xi T55 904 94 ∧ Xi T55 904 94 ≤ 1700 := hHT55.c _ _
    have w3142 : Xi T57 904 98 = Xi T55 904 98 := (show Xi T57 904 98 = Xi T56 904 98 from w3109.x _ _ rfl).trans ((show Xi T56 904 98 = Xi T55 904 98 from w3030.x _ _ rfl))
    have w3143 : 0 ≤ Xi T55 904 98 ∧ Xi T55 904 98 ≤ 1700 := hHT55.c _ _
    exact Rl_weak (C490 T57 hHT57 hFT57  (by omega) (by omega) (by omega) (by omega) (by omega) (by omega) (by omega) (by omega) (by omega) (by omega) (by omega) (by omega) (by first | assumption | exact fun k hk => absurd hk (by omega) | exact (NWV_FR w3109 rfl (by assumption : NWV T56))) (by first | assumption | exact (RDT_FR hHT56 w3109 rfl rfl rfl (RDT_FR hHT55 w3030 rfl rfl rfl (by assumption : RDT T55)))) (by omega) (by omega) (fun q => by omega) (fun q => G462 (by omega))) (And.intro rfl (True.intro))
  · refine l_iconst rfl ?_
    refine l_goto rfl rfl ?_
    refine l_iconst rfl ?_
    refine l_aload_n rfl rfl ?_
    refine l_gfr rfl rfl rfl rfl rfl (hHT56.r 904 67 950 rfl) ?_
    refine l_iconst rfl ?_
    refine l_iaload (n := 2600) rfl rfl (by omega) (by omega) (by unfold rg; omega) ?_
    have w3144 : 0 ≤ (Xi T56 950 ((1 : Int).toNat)) ∧ (Xi T56 950 ((1 : Int).toNat)) ≤ 5010 := hHT56.c _ _
    have w3145 : (Xi T56 950 ((1 : Int).toNat)) = Xi T56 950 1 := rfl
    have e486 : (Xi T56 950 ((1 : Int).toNat)) = Xi S 950 1 := by first | rfl | exact (hFT56.cx 950 rfl _).1
    have w3146 : 0 ≤ Xi T56 904 106 ∧ Xi T56 904 106 ≤ 9 := hHT56.c _ _
    have w3147 : 0 ≤ Xi T56 904 108 ∧ Xi T56 904 108 ≤ 2600 := hHT56.c _ _
    have w3148 : Xi T56 904 109 = Xi T55 904 109 := (show Xi T56 904 109 = Xi T55 904 109 from w3030.x _ _ rfl)
    have w3149 : Xi T56 904 115 = Xi T55 904 115 := (show Xi T56 904 115 = Xi T55 904 115 from w3030.x _ _ rfl)
    have w3150 : -1 ≤ Xi T55 904 115 ∧ Xi T55 904 115 ≤ 15 := hHT55.c _ _
    have w3151 : Xi T56 904 116 = Xi T55 904 116 := (show Xi T56 904 116 = Xi T55 904 116 from w3030.x _ _ rfl)
    have w3152 : -1 ≤ Xi T55 904 116 ∧ Xi T55 904 116 ≤ 15 := hHT55.c _ _
    have w3153 : Xi T56 904 117 = Xi T55 904 117 := (show Xi T56 904 117 = Xi T55 904 117 from w3030.x _ _ rfl)
    have w3154 : 0 ≤ Xi T55 904 117 ∧ Xi T55 904 117 ≤ 480 := hHT55.c _ _
    have w3155 : Xi T56 904 142 = Xi T55 904 142 := (show Xi T56 904 142 = Xi T55 904 142 from w3030.x _ _ rfl)
    have w3156 : 0 ≤ Xi T55 904 142 ∧ Xi T55 904 142 ≤ 4 := hHT55.c _ _
    have w3157 : Xi T56 904 60 = Xi T55 904 60 := (show Xi T56 904 60 = Xi T55 904 60 from w3030.x _ _ rfl)
    have w3158 : -1 ≤ Xi T55 904 60 ∧ Xi T55 904 60 ≤ 23 := hHT55.c _ _
    have w3159 : Xi T56 904 69 = Xi T55 904 69 := (show Xi T56 904 69 = Xi T55 904 69 from w3030.x _ _ rfl)
    have w3160 : 0 ≤ Xi T55 904 69 ∧ Xi T55 904 69 ≤ 2600 := hHT55.c _ _
    have w3161 : Xi T56 904 70 = Xi T55 904 70 := (show Xi T56 904 70 = Xi T55 904 70 from w3030.x _ _ rfl)
    have w3162 : 0 ≤ Xi T55 904 70 ∧ Xi T55 904 70 ≤ 20 := hHT55.c _ _
    have w3163 : Xi T56 904 71 = Xi T55 904 71 := (show Xi T56 904 71 = Xi T55 904 71 from w3030.x _ _ rfl)
    have w3164 : 0 ≤ Xi T55 904 71 ∧ Xi T55 904 71 ≤ 2600 := hHT55.c _ _
    have w3165 : Xi T56 904 72 = Xi T55 904 72 := (show Xi T56 904 72 = Xi T55 904 72 from w3030.x _ _ rfl)
    have w3166 : 0 ≤ Xi T55 904 72 ∧ Xi T55 904 72 ≤ 2600 := hHT55.c _ _
    have w3167 : Xi T56 904 73 = Xi T55 904 73 := (show Xi T56 904 73 = Xi T55 904 73 from w3030.x _ _ rfl)
    have w3168 : 0 ≤ Xi T55 904 73 ∧ Xi T55 904 73 ≤ 5 := hHT55.c _ _
    have w3169 : Xi T56 904 74 = Xi T55 904 74 := (show Xi T56 904 74 = Xi T55 904 74 from w3030.x _ _ rfl)
    have w3170 : 0 ≤ Xi T55 904 74 ∧ Xi T55 904 74 ≤ 2600 := hHT55.c _ _
    have w3171 : Xi T56 904 78 = Xi T55 904 78 := (show Xi T56 904 78 = Xi T55 904 78 from w3030.x _ _ rfl)
    have w3172 : -2 ≤ Xi T55 904 78 ∧ Xi T55 904 78 ≤ 5010 := hHT55.c _ _
    have w3173 : Xi T56 904 81 = Xi T55 904 81 := (show Xi T56 904 81 = Xi T55 904 81 from w3030.x _ _ rfl)
    have w3174 : 0 ≤ Xi T55 904 81 ∧ Xi T55 904 81 ≤ 5010 := hHT55.c _ _
    have w3175 : Xi T56 904 94 = Xi T55 904 94 := (show Xi T56 904 94 = Xi T55 904 94 from w3030.x _ _ rfl)
    have w3176 : 0 ≤ Xi T55 904 94 ∧ Xi T55 904 94 ≤ 1700 := hHT55.c _ _
    have w3177 : Xi T56 904 98 = Xi T55 904 98 := (show Xi T56 904 98 = Xi T55 904 98 from w3030.x _ _ rfl)
    have w3178 : 0 ≤ Xi T55 904 98 ∧ Xi T55 904 98 ≤ 1700 := hHT55.c _ _
    refine l_callV rfl rfl rfl (t_mo_need hHT56 1 4 (Xi T56 950 ((1 : Int).toNat)) ⟨by omega, by omega⟩ ⟨by omega, by omega⟩ ⟨by omega, by omega⟩ _) ?_
    rintro _ T58 ⟨hHT58, w3182, rfl, w3179, w3180⟩
    have hFT58 : FR md_mo_asked S T58 := FR.tr hFT56 w3182 rfl
    show Rl _ _ _ _ _ [] _ _
    have w3183 : 0 ≤ Xi T58 904 106 ∧ Xi T58 904 106 ≤ 9 := hHT58.c _ _
    have w3184 : Xi T58 904 108 = Xi T56 904 108 := (show Xi T58 904 108 = Xi T56 904 108 from w3182.x _ _ rfl)
    have w3185 : 0 ≤ Xi T56 904 108 ∧ Xi T56 904 108 ≤ 2600 := hHT56.c _ _
    have w3186 : Xi T58 904 109 = Xi T55 904 109 := (show Xi T58 904 109 = Xi T56 904 109 from w3182.x _ _ rfl).trans ((show Xi T56 904 109 = Xi T55 904 109 from w3030.x _ _ rfl))
    have w3187 : Xi T58 904 115 = Xi T55 904 115 := (show Xi T58 904 115 = Xi T56 904 115 from w3182.x _ _ rfl).trans ((show Xi T56 904 115 = Xi T55 904 115 from w3030.x _ _ rfl))
    have w3188 : -1 ≤ Xi T55 904 115 ∧ Xi T55 904 115 ≤ 15 := hHT55.c _ _
    have w3189 : Xi T58 904 116 = Xi T55 904 116 := (show Xi T58 904 116 = Xi T56 904 116 from w3182.x _ _ rfl).trans ((show Xi T56 904 116 = Xi T55 904 116 from w3030.x _ _ rfl))
    have w3190 : -1 ≤ Xi T55 904 116 ∧ Xi T55 904 116 ≤ 15 := hHT55.c _ _
    have w3191 : Xi T58 904 117 = Xi T55 904 117 := (show Xi T58 904 117 = Xi T56 904 117 from w3182.x _ _ rfl).trans ((show Xi T56 904 117 = Xi T55 904 117 from w3030.x _ _ rfl))
    have w3192 : 0 ≤ Xi T55 904 117 ∧ Xi T55 904 117 ≤ 480 := hHT55.c _ _
    have w3193 : Xi T58 904 142 = Xi T55 904 142 := (show Xi T58 904 142 = Xi T56 904 142 from w3182.x _ _ rfl).trans ((show Xi T56 904 142 = Xi T55 904 142 from w3030.x _ _ rfl))
    have w3194 : 0 ≤ Xi T55 904 142 ∧ Xi T55 904 142 ≤ 4 := hHT55.c _ _
    have w3195 : Xi T58 904 60 = Xi T55 904 60 := (show Xi T58 904 60 = Xi T56 904 60 from w3182.x _ _ rfl).trans ((show Xi T56 904 60 = Xi T55 904 60 from w3030.x _ _ rfl))
    have w3196 : -1 ≤ Xi T55 904 60 ∧ Xi T55 904 60 ≤ 23 := hHT55.c _ _
    have w3197 : Xi T58 904 69 = Xi T55 904 69 := (show Xi T58 904 69 = Xi T56 904 69 from w3182.x _ _ rfl).trans ((show Xi T56 904 69 = Xi T55 904 69 from w3030.x _ _ rfl))
    have w3198 : 0 ≤ Xi T55 904 69 ∧ Xi T55 904 69 ≤ 2600 := hHT55.c _ _
    have w3199 : Xi T58 904 70 = Xi T55 904 70 := (show Xi T58 904 70 = Xi T56 904 70 from w3182.x _ _ rfl).trans ((show Xi T56 904 70 = Xi T55 904 70 from w3030.x _ _ rfl))
    have w3200 : 0 ≤ Xi T55 904 70 ∧ Xi T55 904 70 ≤ 20 := hHT55.c _ _
    have w3201 : Xi T58 904 71 = Xi T55 904 71 := (show Xi T58 904 71 = Xi T56 904 71 from w3182.x _ _ rfl).trans ((show Xi T56 904 71 = Xi T55 904 71 from w3030.x _ _ rfl))
    have w3202 : 0 ≤ Xi T55 904 71 ∧ Xi T55 904 71 ≤ 2600 := hHT55.c _ _
    have w3203 : Xi T58 904 72 = Xi T55 904 72 := (show Xi T58 904 72 = Xi T56 904 72 from w3182.x _ _ rfl).trans ((show Xi T56 904 72 = Xi T55 904 72 from w3030.x _ _ rfl))
    have w3204 : 0 ≤ Xi T55 904 72 ∧ Xi T55 904 72 ≤ 2600 := hHT55.c _ _
    have w3205 : Xi T58 904 73 = Xi T55 904 73 := (show Xi T58 904 73 = Xi T56 904 73 from w3182.x _ _ rfl).trans ((show Xi T56 904 73 = Xi T55 904 73 from w3030.x _ _ rfl))
    have w3206 : 0 ≤ Xi T55 904 73 ∧ Xi T55 904 73 ≤ 5 := hHT55.c _ _
    have w3207 : Xi T58 904 74 = Xi T55 904 74 := (show Xi T58 904 74 = Xi T56 904 74 from w3182.x _ _ rfl).trans ((show Xi T56 904 74 = Xi T55 904 74 from w3030.x _ _ rfl))
    have w3208 : 0 ≤ Xi T55 904 74 ∧ Xi T55 904 74 ≤ 2600 := hHT55.c _ _
    have w3209 : Xi T58 904 78 = Xi T55 904 78 := (show Xi T58 904 78 = Xi T56 904 78 from w3182.x _ _ rfl).trans ((show Xi T56 904 78 = Xi T55 904 78 from w3030.x _ _ rfl))
    have w3210 : -2 ≤ Xi T55 904 78 ∧ Xi T55 904 78 ≤ 5010 := hHT55.c _ _
    have w3211 : Xi T58 904 81 = Xi T55 904 81 := (show Xi T58 904 81 = Xi T56 904 81 from w3182.x _ _ rfl).trans ((show Xi T56 904 81 = Xi T55 904 81 from w3030.x _ _ rfl))
    have w3212 : 0 ≤ Xi T55 904 81 ∧ Xi T55 904 81 ≤ 5010 := hHT55.c _ _
    have w3213 : Xi T58 904 94 = Xi T55 904 94 := (show Xi T58 904 94 = Xi T56 904 94 from w3182.x _ _ rfl).trans ((show Xi T56 904 94 = Xi T55 904 94 from w3030.x _ _ rfl))
    have w3214 : 0 ≤ Xi T55 904 94 ∧ Xi T55 904 94 ≤ 1700 := hHT55.c _ _
    have w3215 : Xi T58 904 98 = Xi T55 904 98 := (show Xi T58 904 98 = Xi T56 904 98 from w3182.x _ _ rfl).trans ((show Xi T56 904 98 = Xi T55 904 98 from w3030.x _ _ rfl))
    have w3216 : 0 ≤ Xi T55 904 98 ∧ Xi T55 904 98 ≤ 1700 := hHT55.c _ _
    exact Rl_weak (C490 T58 hHT58 hFT58  (by omega) (by omega) (by omega) (by omega) (by omega) (by omega) (by omega) (by omega) (by omega) (by omega) (by omega) (by omega) (by first | assumption | exact fun k hk => absurd hk (by omega) | exact (NWV_FR w3182 rfl (by assumption : NWV T56))) (by first | assumption | exact (RDT_FR hHT56 w3182 rfl rfl rfl (RDT_FR hHT55 w3030 rfl rfl rfl (by assumption : RDT T55)))) (by omega) (by omega) (fun q => by omega) (fun q => G462 (by omega))) (And.intro rfl (True.intro))
set_option maxRecDepth 100000 in
set_option maxHeartbeats 8000000 in
theorem c518_mo_asked {S : sS} (hH : HI S) (n : Nat) (dd : Nat) (first : Int) (hfirst : 0 ≤ first ∧ first ≤ 5001) (hT : TK S n) (hv : RNV S n) (hM : LXM S) (hB : ABV S) (hC : DCM S) (hK : TXK S n) (hX : TXM S) (hq : SNQ S n) (hap : AP9 S n) (h94 : Xi S 904 94 ≤ 1668) (hRD : RDT S) (hPF : PF S) (hdt : Xi S 904 70 = 20 → first ≤ dd ∧ dd < n ∧ Xi S 907 dd = 46) (d : Nat) : ∀  (T59 : sS) (_ : HI T59) (_ : FR md_mo_asked S T59), (Xi T59 904 117 = Xi S 904 117) → (Xi T59 904 69 = Xi S 904 69) → (Xi T59 904 70 = Xi S 904 70) → (Xi T59 904 71 = Xi S 904 71) → (Xi T59 904 72 = Xi S 904 72) → (Xi T59 904 73 = Xi S 904 73) → (Xi T59 904 74 = Xi S 904 74) → (Xi T59 904 78 = Xi S 904 78) → (Xi T59 904 81 = Xi S 904 81) → (Xi T59 904 94 = Xi S 904 94) → (Xi T59 904 98 = Xi S 904 98) → (Xi T59 904 60 = Xi S 904 60) → (Xi T59 904 106 = 0) → (Xi T59 904 108 = 0) → (Xi T59 904 115 = -1) → (Xi T59 904 116 = -1) → (SNQ T59 n) → (RDT T59) → (KQL T59 S (Xi S 904 117)) → (Xi S 904 70 = 20) → Rl lay0 (d + 12) m_mo_asked 518 [(0, .ref 904), (1, iv first)] [] T59 (Q_mo_asked S n dd first) := by
  have hF : FR md_mo_asked S S := FR.rf
  have w1 : 0 ≤ Xi S 904 106 ∧ Xi S 904 106 ≤ 9 := hH.c _ _
  have w2 : 0 ≤ Xi S 904 108 ∧ Xi S 904 108 ≤ 2600 := hH.c _ _
  have w3 : -1 ≤ Xi S 904 115 ∧ Xi S 904 115 ≤ 15 := hH.c _ _
  have w4 : -1 ≤ Xi S 904 116 ∧ Xi S 904 116 ≤ 15 := hH.c _ _
  have w5 : 0 ≤ Xi S 904 117 ∧ Xi S 904 117 ≤ 480 := hH.c _ _
  have w6 : 0 ≤ Xi S 904 23 ∧ Xi S 904 23 ≤ 24 := hH.c _ _
  have w7 : 0 ≤ Xi S 904 41 ∧ Xi S 904 41 ≤ 6 := hH.c _ _
  have w8 : -1 ≤ Xi S 904 60 ∧ Xi S 904 60 ≤ 23 := hH.c _ _
  have w9 : 0 ≤ Xi S 904 69 ∧ Xi S 904 69 ≤ 2600 := hH.c _ _
  have w10 : 0 ≤ Xi S 904 70 ∧ Xi S 904 70 ≤ 20 := hH.c _ _
  have w11 : 0 ≤ Xi S 904 71 ∧ Xi S 904 71 ≤ 2600 := hH.c _ _
  have w12 : 0 ≤ Xi S 904 72 ∧ Xi S 904 72 ≤ 2600 := hH.c _ _
  have w13 : 0 ≤ Xi S 904 73 ∧ Xi S 904 73 ≤ 5 := hH.c _ _
  have w14 : 0 ≤ Xi S 904 74 ∧ Xi S 904 74 ≤ 2600 := hH.c _ _
  have w15 : -2 ≤ Xi S 904 78 ∧ Xi S 904 78 ≤ 5010 := hH.c _ _
  have w16 : 0 ≤ Xi S 904 81 ∧ Xi S 904 81 ≤ 5010 := hH.c _ _
  have w17 : 0 ≤ Xi S 904 94 ∧ Xi S 904 94 ≤ 1700 := hH.c _ _
  have w18 : 0 ≤ Xi S 904 98 ∧ Xi S 904 98 ≤ 1700 := hH.c _ _
  have w19 : 0 ≤ Xi S 951 0 ∧ Xi S 951 0 ≤ 5010 := hH.c _ _
  have w20 : 0 ≤ Xi S 951 1 ∧ Xi S 951 1 ≤ 5010 := hH.c _ _
  have hn5 := hT.1
  have hc69 : 0 ≤ Xi S 904 69 ∧ Xi S 904 69 ≤ 2600 := hH.c _ _
  have hc70 : 0 ≤ Xi S 904 70 ∧ Xi S 904 70 ≤ 20 := hH.c _ _
  have hc23 : 0 ≤ Xi S 904 23 ∧ Xi S 904 23 ≤ 24 := hH.c _ _
  have hrf : ∀ r : Int, 0 ≤ r → r < Xi S 904 69 → Xi S 950 r.toNat + Xi S 951 r.toNat ≤ n ∧ 1 ≤ Xi S 951 r.toNat := fun r a b => hv r.toNat (by omega)
  have hq0 : KQL S S (Xi S 904 117) := KQL.rf
  intro T59 hHT59 hFT59 w3217 w3218 w3219 w3220 w3221 w3222 w3223 w3224 w3225 w3226 w3227 w3228 w3229 w3230 w3231 w3232 q20 r20 K20 w3233
  have w3234 : Xi T59 904 102 = Xi S 904 102 := hFT59.x _ _ rfl
  have w3235 : Xi T59 904 103 = Xi S 904 103 := hFT59.x _ _ rfl
  have w3236 : Xi T59 904 16 = Xi S 904 16 := hFT59.x _ _ rfl
  have w3237 : Xi T59 904 18 = Xi S 904 18 := hFT59.x _ _ rfl
  have w3238 : Xi T59 904 19 = Xi S 904 19 := hFT59.x _ _ rfl
  have w3239 : Xi T59 904 23 = Xi S 904 23 := hFT59.x _ _ rfl
  have w3240 : Xi T59 904 30 = Xi S 904 30 := hFT59.x _ _ rfl
  have w3241 : Xi T59 904 41 = Xi S 904 41 := hFT59.x _ _ rfl
  have w3242 : Xi T59 904 47 = Xi S 904 47 := hFT59.x _ _ rfl
  have w3243 : Xi T59 904 49 = Xi S 904 49 := hFT59.x _ _ rfl
  have w3244 : Xi T59 904 55 = Xi S 904 55 := hFT59.x _ _ rfl
  have w3245 : Xi T59 904 60 = Xi S 904 60 := hFT59.x _ _ rfl
  have w3246 : Xi T59 904 69 = Xi S 904 69 := hFT59.x _ _ rfl
  have w3247 : Xi T59 904 70 = Xi S 904 70 := hFT59.x _ _ rfl
  have w3248 : Xi T59 904 71 = Xi S 904 71 := hFT59.x _ _ rfl
  have w3249 : Xi T59 904 72 = Xi S 904 72 := hFT59.x _ _ rfl
  have w3250 : Xi T59 904 73 = Xi S 904 73 := hFT59.x _ _ rfl
  have w3251 : Xi T59 904 74 = Xi S 904 74 := hFT59.x _ _ rfl
  have w3252 : Xi T59 904 78 = Xi S 904 78 := hFT59.x _ _ rfl
  have w3253 : Xi T59 904 81 = Xi S 904 81 := hFT59.x _ _ rfl
  have w3254 : Xi T59 904 94 = Xi S 904 94 := hFT59.x _ _ rfl
  have w3255 : Xi T59 904 98 = Xi S 904 98 := hFT59.x _ _ rfl
  have w3256 : Xi T59 951 0 = Xi S 951 0 := hFT59.x _ _ rfl
  have w3257 : Xi T59 951 1 = Xi S 951 1 := hFT59.x _ _ rfl
  have w3258 : 0 ≤ Xi T59 904 106 ∧ Xi T59 904 106 ≤ 9 := hHT59.c _ _
  have w3259 : 0 ≤ Xi T59 904 108 ∧ Xi T59 904 108 ≤ 2600 := hHT59.c _ _
  have w3260 : -1 ≤ Xi T59 904 115 ∧ Xi T59 904 115 ≤ 15 := hHT59.c _ _
  have w3261 : -1 ≤ Xi T59 904 116 ∧ Xi T59 904 116 ≤ 15 := hHT59.c _ _
  have w3262 : 0 ≤ Xi T59 904 117 ∧ Xi T59 904 117 ≤ 480 := hHT59.c _ _
  have w3263 : -1 ≤ Xi T59 904 60 ∧ Xi T59 904 60 ≤ 23 := hHT59.c _ _
  have w3264 : 0 ≤ Xi T59 904 69 ∧ Xi T59 904 69 ≤ 2600 := hHT59.c _ _
  have w3265 : 0 ≤ Xi T59 904 70 ∧ Xi T59 904 70 ≤ 20 := hHT59.c _ _
  have w3266 : 0 ≤ Xi T59 904 71 ∧ Xi T59 904 71 ≤ 2600 := hHT59.c _ _
  have w3267 : 0 ≤ Xi T59 904 72 ∧ Xi T59 904 72 ≤ 2600 := hHT59.c _ _
  have w3268 : 0 ≤ Xi T59 904 73 ∧ Xi T59 904 73 ≤ 5 := hHT59.c _ _
  have w3269 : 0 ≤ Xi T59 904 74 ∧ Xi T59 904 74 ≤ 2600 := hHT59.c _ _
  have w3270 : -2 ≤ Xi T59 904 78 ∧ Xi T59 904 78 ≤ 5010 := hHT59.c _ _
  have w3271 : 0 ≤ Xi T59 904 81 ∧ Xi T59 904 81 ≤ 5010 := hHT59.c _ _
  have w3272 : 0 ≤ Xi T59 904 94 ∧ Xi T59 904 94 ≤ 1700 := hHT59.c _ _
  have w3273 : 0 ≤ Xi T59 904 98 ∧ Xi T59 904 98 ≤ 1700 := hHT59.c _ _
  refine l_aload_n rfl rfl ?_
  have s518 := hdt (by omega)
  refine l_iload_n rfl rfl ?_
  have w3274 : 0 ≤ Xi T59 904 106 ∧ Xi T59 904 106 ≤ 9 := hHT59.c _ _
  have w3275 : 0 ≤ Xi T59 904 108 ∧ Xi T59 904 108 ≤ 2600 := hHT59.c _ _
  have w3276 : -1 ≤ Xi T59 904 115 ∧ Xi T59 904 115 ≤ 15 := hHT59.c _ _
  have w3277 : -1 ≤ Xi T59 904 116 ∧ Xi T59 904 116 ≤ 15 := hHT59.c _ _
  have w3278 : 0 ≤ Xi T59 904 117 ∧ Xi T59 904 117 ≤ 480 := hHT59.c _ _
  have w3279 : 0 ≤ Xi T59 904 142 ∧ Xi T59 904 142 ≤ 4 := hHT59.c _ _
  have w3280 : -1 ≤ Xi T59 904 60 ∧ Xi T59 904 60 ≤ 23 := hHT59.c _ _
  have w3281 : 0 ≤ Xi T59 904 69 ∧ Xi T59 904 69 ≤ 2600 := hHT59.c _ _
  have w3282 : 0 ≤ Xi T59 904 70 ∧ Xi T59 904 70 ≤ 20 := hHT59.c _ _
  have w3283 : 0 ≤ Xi T59 904 71 ∧ Xi T59 904 71 ≤ 2600 := hHT59.c _ _
  have w3284 : 0 ≤ Xi T59 904 72 ∧ Xi T59 904 72 ≤ 2600 := hHT59.c _ _
  have w3285 : 0 ≤ Xi T59 904 73 ∧ Xi T59 904 73 ≤ 5 := hHT59.c _ _
  have w3286 : 0 ≤ Xi T59 904 74 ∧ Xi T59 904 74 ≤ 2600 := hHT59.c _ _
  have w3287 : -2 ≤ Xi T59 904 78 ∧ Xi T59 904 78 ≤ 5010 := hHT59.c _ _
  have w3288 : 0 ≤ Xi T59 904 81 ∧ Xi T59 904 81 ≤ 5010 := hHT59.c _ _
  have w3289 : 0 ≤ Xi T59 904 94 ∧ Xi T59 904 94 ≤ 1700 := hHT59.c _ _
  have w3290 : 0 ≤ Xi T59 904 98 ∧ Xi T59 904 98 ≤ 1700 := hHT59.c _ _
  refine l_callV rfl rfl rfl (t_mo_askSaying hHT59 n dd first ⟨by omega, by omega⟩ (by first | assumption | exact (TK_FR hFT59 rfl (by assumption : TK S _))) (by first | assumption | exact (LXM_FR hFT59 rfl (by assumption : LXM S))) (by first | assumption | exact (ABV_FR hFT59 rfl (by assumption : ABV S))) (by rw [(hFT59.cx 907 rfl _).1]; exact s518) _) ?_
  rintro _ T60 ⟨hHT60, w3293, rfl, w3291⟩
  have hFT60 : FR md_mo_asked S T60 := FR.tr hFT59 w3293 rfl
  show Rl _ _ _ _ _ [] _ _
  have y520_69 : Xi T60 904 69 = Xi T59 904 69 := ((show Xi T60 904 69 = Xi T59 904 69 from w3293.x _ _ rfl))
  have y520_70 : Xi T60 904 70 = Xi T59 904 70 := ((show Xi T60 904 70 = Xi T59 904 70 from w3293.x _ _ rfl))
  have y520_71 : Xi T60 904 71 = Xi T59 904 71 := ((show Xi T60 904 71 = Xi T59 904 71 from w3293.x _ _ rfl))
  have y520_72 : Xi T60 904 72 = Xi T59 904 72 := ((show Xi T60 904 72 = Xi T59 904 72 from w3293.x _ _ rfl))
  have y520_73 : Xi T60 904 73 = Xi T59 904 73 := ((show Xi T60 904 73 = Xi T59 904 73 from w3293.x _ _ rfl))
  have y520_74 : Xi T60 904 74 = Xi T59 904 74 := ((show Xi T60 904 74 = Xi T59 904 74 from w3293.x _ _ rfl))
  have y520_78 : Xi T60 904 78 = Xi T59 904 78 := ((show Xi T60 904 78 = Xi T59 904 78 from w3293.x _ _ rfl))
  have y520_81 : Xi T60 904 81 = Xi T59 904 81 := ((show Xi T60 904 81 = Xi T59 904 81 from w3293.x _ _ rfl))
  have y520_94 : Xi T60 904 94 = Xi T59 904 94 := ((show Xi T60 904 94 = Xi T59 904 94 from w3293.x _ _ rfl))
  have y520_98 : Xi T60 904 98 = Xi T59 904 98 := ((show Xi T60 904 98 = Xi T59 904 98 from w3293.x _ _ rfl))
  have y520_60 : Xi T60 904 60 = Xi T59 904 60 := ((show Xi T60 904 60 = Xi T59 904 60 from w3293.x _ _ rfl))
  have y520_117 : Xi T60 904 117 = Xi T59 904 117 := ((show Xi T60 904 117 = Xi T59 904 117 from w3293.x _ _ rfl))
  have F520 : Xi T60 904 106 = 0 → DOK T60 := fun q => dok_3 (by omega)
  refine l_goto rfl rfl ?_
  refine l_return rfl rfl ?_
  have w3294 : 0 ≤ Xi T60 904 106 ∧ Xi T60 904 106 ≤ 9 := hHT60.c _ _
  have w3295 : Xi T60 904 108 = Xi T59 904 108 := (show Xi T60 904 108 = Xi T59 904 108 from w3293.x _ _ rfl)
  have w3296 : 0 ≤ Xi T59 904 108 ∧ Xi T59 904 108 ≤ 2600 := hHT59.c _ _
  have w3297 : Xi T60 904 109 = Xi T59 904 109 := (show Xi T60 904 109 = Xi T59 904 109 from w3293.x _ _ rfl)
  have w3298 : Xi T60 904 115 = Xi T59 904 115 := (show Xi T60 904 115 = Xi T59 904 115 from w3293.x _ _ rfl)
  have w3299 : -1 ≤ Xi T59 904 115 ∧ Xi T59 904 115 ≤ 15 := hHT59.c _ _
  have w3300 : Xi T60 904 116 = Xi T59 904 116 := (show Xi T60 904 116 = Xi T59 904 116 from w3293.x _ _ rfl)
  have w3301 : -1 ≤ Xi T59 904 116 ∧ Xi T59 904 116 ≤ 15 := hHT59.c _ _
  have w3302 : Xi T60 904 117 = Xi T59 904 117 := (show Xi T60 904 117 = Xi T59 904 117 from w3293.x _ _ rfl)
  have w3303 : 0 ≤ Xi T59 904 117 ∧ Xi T59 904 117 ≤ 480 := hHT59.c _ _
  have w3304 : Xi T60 904 142 = Xi T59 904 142 := (show Xi T60 904 142 = Xi T59 904 142 from w3293.x _ _ rfl)
  have w3305 : 0 ≤ Xi T59 904 142 ∧ Xi T59 904 142 ≤ 4 := hHT59.c _ _
  have w3306 : Xi T60 904 60 = Xi T59 904 60 := (show Xi T60 904 60 = Xi T59 904 60 from w3293.x _ _ rfl)
  have w3307 : -1 ≤ Xi T59 904 60 ∧ Xi T59 904 60 ≤ 23 := hHT59.c _ _
  have w3308 : Xi T60 904 69 = Xi T59 904 69 := (show Xi T60 904 69 = Xi T59 904 69 from w3293.x _ _ rfl)
  have w3309 : 0 ≤ Xi T59 904 69 ∧ Xi T59 904 69 ≤ 2600 := hHT59.c _ _
  have w3310 : Xi T60 904 70 = Xi T59 904 70 := (show Xi T60 904 70 = Xi T59 904 70 from w3293.x _ _ rfl)
  have w3311 : 0 ≤ Xi T59 904 70 ∧ Xi T59 904 70 ≤ 20 := hHT59.c _ _
  have w3312 : Xi T60 904 71 = Xi T59 904 71 := (show Xi T60 904 71 = Xi T59 904 71 from w3293.x _ _ rfl)
  have w3313 : 0 ≤ Xi T59 904 71 ∧ Xi T59 904 71 ≤ 2600 := hHT59.c _ _
  have w3314 : Xi T60 904 72 = Xi T59 904 72 := (show Xi T60 904 72 = Xi T59 904 72 from w3293.x _ _ rfl)
  have w3315 : 0 ≤ Xi T59 904 72 ∧ Xi T59 904 72 ≤ 2600 := hHT59.c _ _
  have w3316 : Xi T60 904 73 = Xi T59 904 73 := (show Xi T60 904 73 = Xi T59 904 73 from w3293.x _ _ rfl)
  have w3317 : 0 ≤ Xi T59 904 73 ∧ Xi T59 904 73 ≤ 5 := hHT59.c _ _
  have w3318 : Xi T60 904 74 = Xi T59 904 74 := (show Xi T60 904 74 = Xi T59 904 74 from w3293.x _ _ rfl)
  have w3319 : 0 ≤ Xi T59 904 74 ∧ Xi T59 904 74 ≤ 2600 := hHT59.c _ _
  have w3320 : Xi T60 904 78 = Xi T59 904 78 := (show Xi T60 904 78 = Xi T59 904 78 from w3293.x _ _ rfl)
  have w3321 : -2 ≤ Xi T59 904 78 ∧ Xi T59 904 78 ≤ 5010 := hHT59.c _ _
  have w3322 : Xi T60 904 81 = Xi T59 904 81 := (show Xi T60 904 81 = Xi T59 904 81 from w3293.x _ _ rfl)
  have w3323 : 0 ≤ Xi T59 904 81 ∧ Xi T59 904 81 ≤ 5010 := hHT59.c _ _
  have w3324 : Xi T60 904 94 = Xi T59 904 94 := (show Xi T60 904 94 = Xi T59 904 94 from w3293.x _ _ rfl)
  have w3325 : 0 ≤ Xi T59 904 94 ∧ Xi T59 904 94 ≤ 1700 := hHT59.c _ _
  have w3326 : Xi T60 904 98 = Xi T59 904 98 := (show Xi T60 904 98 = Xi T59 904 98 from w3293.x _ _ rfl)
  have w3327 : 0 ≤ Xi T59 904 98 ∧ Xi T59 904 98 ≤ 1700 := hHT59.c _ _
  exact ⟨hHT60, hFT60, rfl, (by assumption), (by first | exact fun q => by assumption | assumption | exact fun q => (RDT_FR hHT59 w3293 rfl rfl rfl (by assumption : RDT T59)))⟩
set_option maxRecDepth 100000 in
set_option maxHeartbeats 8000000 in
theorem c20_mo_asked {S : sS} (hH : HI S) (n : Nat) (dd : Nat) (first : Int) (hfirst : 0 ≤ first ∧ first ≤ 5001) (hT : TK S n) (hv : RNV S n) (hM : LXM S) (hB : ABV S) (hC : DCM S) (hK : TXK S n) (hX : TXM S) (hq : SNQ S n) (hap : AP9 S n) (h94 : Xi S 904 94 ≤ 1668) (hRD : RDT S) (hPF : PF S) (hdt : Xi S 904 70 = 20 → first ≤ dd ∧ dd < n ∧ Xi S 907 dd = 46) (d : Nat) : ∀  (T61 : sS) (_ : HI T61) (_ : FR md_mo_asked S T61), (Xi T61 904 117 = Xi S 904 117) → (Xi T61 904 69 = Xi S 904 69) → (Xi T61 904 70 = Xi S 904 70) → (Xi T61 904 71 = Xi S 904 71) → (Xi T61 904 72 = Xi S 904 72) → (Xi T61 904 73 = Xi S 904 73) → (Xi T61 904 74 = Xi S 904 74) → (Xi T61 904 78 = Xi S 904 78) → (Xi T61 904 81 = Xi S 904 81) → (Xi T61 904 94 = Xi S 904 94) → (Xi T61 904 98 = Xi S 904 98) → (Xi T61 904 60 = Xi S 904 60) → (Xi T61 904 106 = 0) → (Xi T61 904 108 = 0) → (Xi T61 904 115 = -1) → (Xi T61 904 116 = -1) → (SNQ T61 n) → (RDT T61) → (KQL T61 S (Xi S 904 117)) → Rl lay0 (d + 12) m_mo_asked 20 [(0, .ref 904), (1, iv first)] [] T61 (Q_mo_asked S n dd first) := by
  have C526 := c526_mo_asked hH n dd first hfirst hT hv hM hB hC hK hX hq hap h94 hRD hPF hdt d 
  have C124 := c124_mo_asked hH n dd first hfirst hT hv hM hB hC hK hX hq hap h94 hRD hPF hdt d 
  have C149 := c149_mo_asked hH n dd first hfirst hT hv hM hB hC hK hX hq hap h94 hRD hPF hdt d 
  have C156 := c156_mo_asked hH n dd first hfirst hT hv hM hB hC hK hX hq hap h94 hRD hPF hdt d 
  have C183 := c183_mo_asked hH n dd first hfirst hT hv hM hB hC hK hX hq hap h94 hRD hPF hdt d 
  have C190 := c190_mo_asked hH n dd first hfirst hT hv hM hB hC hK hX hq hap h94 hRD hPF hdt d 
  have C234 := c234_mo_asked hH n dd first hfirst hT hv hM hB hC hK hX hq hap h94 hRD hPF hdt d 
  have C241 := c241_mo_asked hH n dd first hfirst hT hv hM hB hC hK hX hq hap h94 hRD hPF hdt d 
  have C248 := c248_mo_asked hH n dd first hfirst hT hv hM hB hC hK hX hq hap h94 hRD hPF hdt d 
  have C302 := c302_mo_asked hH n dd first hfirst hT hv hM hB hC hK hX hq hap h94 hRD hPF hdt d 
  have C313 := c313_mo_asked hH n dd first hfirst hT hv hM hB hC hK hX hq hap h94 hRD hPF hdt d 
  have C320 := c320_mo_asked hH n dd first hfirst hT hv hM hB hC hK hX hq hap h94 hRD hPF hdt d 
  have C327 := c327_mo_asked hH n dd first hfirst hT hv hM hB hC hK hX hq hap h94 hRD hPF hdt d 
  have C410 := c410_mo_asked hH n dd first hfirst hT hv hM hB hC hK hX hq hap h94 hRD hPF hdt d 
  have C454 := c454_mo_asked hH n dd first hfirst hT hv hM hB hC hK hX hq hap h94 hRD hPF hdt d 
  have C518 := c518_mo_asked hH n dd first hfirst hT hv hM hB hC hK hX hq hap h94 hRD hPF hdt d 
  have hF : FR md_mo_asked S S := FR.rf
  have w1 : 0 ≤ Xi S 904 106 ∧ Xi S 904 106 ≤ 9 := hH.c _ _
  have w2 : 0 ≤ Xi S 904 108 ∧ Xi S 904 108 ≤ 2600 := hH.c _ _
  have w3 : -1 ≤ Xi S 904 115 ∧ Xi S 904 115 ≤ 15 := hH.c _ _
  have w4 : -1 ≤ Xi S 904 116 ∧ Xi S 904 116 ≤ 15 := hH.c _ _
  have w5 : 0 ≤ Xi S 904 117 ∧ Xi S 904 117 ≤ 480 := hH.c _ _
  have w6 : 0 ≤ Xi S 904 23 ∧ Xi S 904 23 ≤ 24 := hH.c _ _
  have w7 : 0 ≤ Xi S 904 41 ∧ Xi S 904 41 ≤ 6 := hH.c _ _
  have w8 : -1 ≤ Xi S 904 60 ∧ Xi S 904 60 ≤ 23 := hH.c _ _
  have w9 : 0 ≤ Xi S 904 69 ∧ Xi S 904 69 ≤ 2600 := hH.c _ _
  have w10 : 0 ≤ Xi S 904 70 ∧ Xi S 904 70 ≤ 20 := hH.c _ _
  have w11 : 0 ≤ Xi S 904 71 ∧ Xi S 904 71 ≤ 2600 := hH.c _ _
  have w12 : 0 ≤ Xi S 904 72 ∧ Xi S 904 72 ≤ 2600 := hH.c _ _
  have w13 : 0 ≤ Xi S 904 73 ∧ Xi S 904 73 ≤ 5 := hH.c _ _
  have w14 : 0 ≤ Xi S 904 74 ∧ Xi S 904 74 ≤ 2600 := hH.c _ _
  have w15 : -2 ≤ Xi S 904 78 ∧ Xi S 904 78 ≤ 5010 := hH.c _ _
  have w16 : 0 ≤ Xi S 904 81 ∧ Xi S 904 81 ≤ 5010 := hH.c _ _
  have w17 : 0 ≤ Xi S 904 94 ∧ Xi S 904 94 ≤ 1700 := hH.c _ _
  have w18 : 0 ≤ Xi S 904 98 ∧ Xi S 904 98 ≤ 1700 := hH.c _ _
  have w19 : 0 ≤ Xi S 951 0 ∧ Xi S 951 0 ≤ 5010 := hH.c _ _
  have w20 : 0 ≤ Xi S 951 1 ∧ Xi S 951 1 ≤ 5010 := hH.c _ _
  have hn5 := hT.1
  have hc69 : 0 ≤ Xi S 904 69 ∧ Xi S 904 69 ≤ 2600 := hH.c _ _
  have hc70 : 0 ≤ Xi S 904 70 ∧ Xi S 904 70 ≤ 20 := hH.c _ _
  have hc23 : 0 ≤ Xi S 904 23 ∧ Xi S 904 23 ≤ 24 := hH.c _ _
  have hrf : ∀ r : Int, 0 ≤ r → r < Xi S 904 69 → Xi S 950 r.toNat + Xi S 951 r.toNat ≤ n ∧ 1 ≤ Xi S 951 r.toNat := fun r a b => hv r.toNat (by omega)
  have hq0 : KQL S S (Xi S 904 117) := KQL.rf
  intro T61 hHT61 hFT61 w3328 w3329 w3330 w3331 w3332 w3333 w3334 w3335 w3336 w3337 w3338 w3339 w3340 w3341 w3342 w3343 q20 r20 K20
  have w3344 : Xi T61 904 102 = Xi S 904 102 := hFT61.x _ _ rfl
  have w3345 : Xi T61 904 103 = Xi S 904 103 := hFT61.x _ _ rfl
  have w3346 : Xi T61 904 16 = Xi S 904 16 := hFT61.x _ _ rfl
  have w3347 : Xi T61 904 18 = Xi S 904 18 := hFT61.x _ _ rfl
  have w3348 : Xi T61 904 19 = Xi S 904 19 := hFT61.x _ _ rfl
  have w3349 : Xi T61 904 23 = Xi S 904 23 := hFT61.x _ _ rfl
  have w3350 : Xi T61 904 30 = Xi S 904 30 := hFT61.x _ _ rfl
  have w3351 : Xi T61 904 41 = Xi S 904 41 := hFT61.x _ _ rfl
  have w3352 : Xi T61 904 47 = Xi S 904 47 := hFT61.x _ _ rfl
  have w3353 : Xi T61 904 49 = Xi S 904 49 := hFT61.x _ _ rfl
  have w3354 : Xi T61 904 55 = Xi S 904 55 := hFT61.x _ _ rfl
  have w3355 : Xi T61 904 60 = Xi S 904 60 := hFT61.x _ _ rfl
  have w3356 : Xi T61 904 69 = Xi S 904 69 := hFT61.x _ _ rfl
  have w3357 : Xi T61 904 70 = Xi S 904 70 := hFT61.x _ _ rfl
  have w3358 : Xi T61 904 71 = Xi S 904 71 := hFT61.x _ _ rfl
  have w3359 : Xi T61 904 72 = Xi S 904 72 := hFT61.x _ _ rfl
  have w3360 : Xi T61 904 73 = Xi S 904 73 := hFT61.x _ _ rfl
  have w3361 : Xi T61 904 74 = Xi S 904 74 := hFT61.x _ _ rfl
  have w3362 : Xi T61 904 78 = Xi S 904 78 := hFT61.x _ _ rfl
  have w3363 : Xi T61 904 81 = Xi S 904 81 := hFT61.x _ _ rfl
  have w3364 : Xi T61 904 94 = Xi S 904 94 := hFT61.x _ _ rfl
  have w3365 : Xi T61 904 98 = Xi S 904 98 := hFT61.x _ _ rfl
  have w3366 : Xi T61 951 0 = Xi S 951 0 := hFT61.x _ _ rfl
  have w3367 : Xi T61 951 1 = Xi S 951 1 := hFT61.x _ _ rfl
  have w3368 : 0 ≤ Xi T61 904 106 ∧ Xi T61 904 106 ≤ 9 := hHT61.c _ _
  have w3369 : 0 ≤ Xi T61 904 108 ∧ Xi T61 904 108 ≤ 2600 := hHT61.c _ _
  have w3370 : -1 ≤ Xi T61 904 115 ∧ Xi T61 904 115 ≤ 15 := hHT61.c _ _
  have w3371 : -1 ≤ Xi T61 904 116 ∧ Xi T61 904 116 ≤ 15 := hHT61.c _ _
  have w3372 : 0 ≤ Xi T61 904 117 ∧ Xi T61 904 117 ≤ 480 := hHT61.c _ _
  have w3373 : -1 ≤ Xi T61 904 60 ∧ Xi T61 904 60 ≤ 23 := hHT61.c _ _
  have w3374 : 0 ≤ Xi T61 904 69 ∧ Xi T61 904 69 ≤ 2600 := hHT61.c _ _
  have w3375 : 0 ≤ Xi T61 904 70 ∧ Xi T61 904 70 ≤ 20 := hHT61.c _ _
  have w3376 : 0 ≤ Xi T61 904 71 ∧ Xi T61 904 71 ≤ 2600 := hHT61.c _ _
  have w3377 : 0 ≤ Xi T61 904 72 ∧ Xi T61 904 72 ≤ 2600 := hHT61.c _ _
  have w3378 : 0 ≤ Xi T61 904 73 ∧ Xi T61 904 73 ≤ 5 := hHT61.c _ _
  have w3379 : 0 ≤ Xi T61 904 74 ∧ Xi T61 904 74 ≤ 2600 := hHT61.c _ _
  have w3380 : -2 ≤ Xi T61 904 78 ∧ Xi T61 904 78 ≤ 5010 := hHT61.c _ _
  have w3381 : 0 ≤ Xi T61 904 81 ∧ Xi T61 904 81 ≤ 5010 := hHT61.c _ _
  have w3382 : 0 ≤ Xi T61 904 94 ∧ Xi T61 904 94 ≤ 1700 := hHT61.c _ _
  have w3383 : 0 ≤ Xi T61 904 98 ∧ Xi T61 904 98 ≤ 1700 := hHT61.c _ _
  refine l_aload_n rfl rfl ?_
  refine l_gfi rfl rfl rfl rfl rfl ?_
  refine l_tsw rfl rfl rfl rfl (by unfold rg; omega) (fun w3384 => ?_) (fun ii tt hii w3384 => ?_)
  · have w3385 : 0 ≤ Xi T61 904 106 ∧ Xi T61 904 106 ≤ 9 := hHT61.c _ _
    have w3386 : 0 ≤ Xi T61 904 108 ∧ Xi T61 904 108 ≤ 2600 := hHT61.c _ _
    have w3387 : -1 ≤ Xi T61 904 115 ∧ Xi T61 904 115 ≤ 15 := hHT61.c _ _
    have w3388 : -1 ≤ Xi T61 904 116 ∧ Xi T61 904 116 ≤ 15 := hHT61.c _ _
    have w3389 : 0 ≤ Xi T61 904 117 ∧ Xi T61 904 117 ≤ 480 := hHT61.c _ _
    have w3390 : 0 ≤ Xi T61 904 142 ∧ Xi T61 904 142 ≤ 4 := hHT61.c _ _
    have w3391 : -1 ≤ Xi T61 904 60 ∧ Xi T61 904 60 ≤ 23 := hHT61.c _ _
    have w3392 : 0 ≤ Xi T61 904 69 ∧ Xi T61 904 69 ≤ 2600 := hHT61.c _ _
    have w3393 : 0 ≤ Xi T61 904 70 ∧ Xi T61 904 70 ≤ 20 := hHT61.c _ _
    have w3394 : 0 ≤ Xi T61 904 71 ∧ Xi T61 904 71 ≤ 2600 := hHT61.c _ _
    have w3395 : 0 ≤ Xi T61 904 72 ∧ Xi T61 904 72 ≤ 2600 := hHT61.c _ _
    have w3396 : 0 ≤ Xi T61 904 73 ∧ Xi T61 904 73 ≤ 5 := hHT61.c _ _
    have w3397 : 0 ≤ Xi T61 904 74 ∧ Xi T61 904 74 ≤ 2600 := hHT61.c _ _
    have w3398 : -2 ≤ Xi T61 904 78 ∧ Xi T61 904 78 ≤ 5010 := hHT61.c _ _
    have w3399 : 0 ≤ Xi T61 904 81 ∧ Xi T61 904 81 ≤ 5010 := hHT61.c _ _
    have w3400 : 0 ≤ Xi T61 904 94 ∧ Xi T61 904 94 ≤ 1700 := hHT61.c _ _
    have w3401 : 0 ≤ Xi T61 904 98 ∧ Xi T61 904 98 ≤ 1700 := hHT61.c _ _
    exact Rl_weak (C526 T61 hHT61 hFT61  (by omega) (by omega) (by omega) (by omega) (by omega) (by omega) (by omega) (by omega) (by omega) (by omega) (by omega) (by omega) (by first | assumption | exact fun k hk => absurd hk (by omega) | exact (by assumption : NWV T61)) (r20) (by omega) (q20)) (And.intro rfl (And.intro rfl (True.intro)))
  · match ii, hii with
    | 0, hii =>
      cases hii
      have w3402 : (Xi T61 904 70) = 0 := by simpa using w3384
      have w3403 : 0 ≤ Xi T61 904 106 ∧ Xi T61 904 106 ≤ 9 := hHT61.c _ _
      have w3404 : 0 ≤ Xi T61 904 108 ∧ Xi T61 904 108 ≤ 2600 := hHT61.c _ _
      have w3405 : -1 ≤ Xi T61 904 115 ∧ Xi T61 904 115 ≤ 15 := hHT61.c _ _
      have w3406 : -1 ≤ Xi T61 904 116 ∧ Xi T61 904 116 ≤ 15 := hHT61.c _ _
      have w3407 : 0 ≤ Xi T61 904 117 ∧ Xi T61 904 117 ≤ 480 := hHT61.c _ _
      have w3408 : 0 ≤ Xi T61 904 142 ∧ Xi T61 904 142 ≤ 4 := hHT61.c _ _
      have w3409 : -1 ≤ Xi T61 904 60 ∧ Xi T61 904 60 ≤ 23 := hHT61.c _ _
      have w3410 : 0 ≤ Xi T61 904 69 ∧ Xi T61 904 69 ≤ 2600 := hHT61.c _ _
      have w3411 : 0 ≤ Xi T61 904 70 ∧ Xi T61 904 70 ≤ 20 := hHT61.c _ _
      have w3412 : 0 ≤ Xi T61 904 71 ∧ Xi T61 904 71 ≤ 2600 := hHT61.c _ _
      have w3413 : 0 ≤ Xi T61 904 72 ∧ Xi T61 904 72 ≤ 2600 := hHT61.c _ _
      have w3414 : 0 ≤ Xi T61 904 73 ∧ Xi T61 904 73 ≤ 5 := hHT61.c _ _
      have w3415 : 0 ≤ Xi T61 904 74 ∧ Xi T61 904 74 ≤ 2600 := hHT61.c _ _
      have w3416 : -2 ≤ Xi T61 904 78 ∧ Xi T61 904 78 ≤ 5010 := hHT61.c _ _
      have w3417 : 0 ≤ Xi T61 904 81 ∧ Xi T61 904 81 ≤ 5010 := hHT61.c _ _
      have w3418 : 0 ≤ Xi T61 904 94 ∧ Xi T61 904 94 ≤ 1700 := hHT61.c _ _
      have w3419 : 0 ≤ Xi T61 904 98 ∧ Xi T61 904 98 ≤ 1700 := hHT61.c _ _
      exact Rl_weak (C124 T61 hHT61 hFT61  (by omega) (by omega) (by omega) (by omega) (by omega) (by omega) (by omega) (by omega) (by omega) (by omega) (by omega) (by omega) (by omega) (by omega) (by omega) (by omega) (q20) (r20) (K20) (by omega)) (And.intro rfl (True.intro))
    | 1, hii =>
      cases hii
      have w3420 : (Xi T61 904 70) = 1 := by simpa using w3384
      have w3421 : 0 ≤ Xi T61 904 106 ∧ Xi T61 904 106 ≤ 9 := hHT61.c _ _
      have w3422 : 0 ≤ Xi T61 904 108 ∧ Xi T61 904 108 ≤ 2600 := hHT61.c _ _
      have w3423 : -1 ≤ Xi T61 904 115 ∧ Xi T61 904 115 ≤ 15 := hHT61.c _ _
      have w3424 : -1 ≤ Xi T61 904 116 ∧ Xi T61 904 116 ≤ 15 := hHT61.c _ _
      have w3425 : 0 ≤ Xi T61 904 117 ∧ Xi T61 904 117 ≤ 480 := hHT61.c _ _
      have w3426 : 0 ≤ Xi T61 904 142 ∧ Xi T61 904 142 ≤ 4 := hHT61.c _ _
      have w3427 : -1 ≤ Xi T61 904 60 ∧ Xi T61 904 60 ≤ 23 := hHT61.c _ _
      have w3428 : 0 ≤ Xi T61 904 69 ∧ Xi T61 904 69 ≤ 2600 := hHT61.c _ _
      have w3429 : 0 ≤ Xi T61 904 70 ∧ Xi T61 904 70 ≤ 20 := hHT61.c _ _
      have w3430 : 0 ≤ Xi T61 904 71 ∧ Xi T61 904 71 ≤ 2600 := hHT61.c _ _
      have w3431 : 0 ≤ Xi T61 904 72 ∧ Xi T61 904 72 ≤ 2600 := hHT61.c _ _
      have w3432 : 0 ≤ Xi T61 904 73 ∧ Xi T61 904 73 ≤ 5 := hHT61.c _ _
      have w3433 : 0 ≤ Xi T61 904 74 ∧ Xi T61 904 74 ≤ 2600 := hHT61.c _ _
      have w3434 : -2 ≤ Xi T61 904 78 ∧ Xi T61 904 78 ≤ 5010 := hHT61.c _ _
      have w3435 : 0 ≤ Xi T61 904 81 ∧ Xi T61 904 81 ≤ 5010 := hHT61.c _ _
      have w3436 : 0 ≤ Xi T61 904 94 ∧ Xi T61 904 94 ≤ 1700 := hHT61.c _ _
      have w3437 : 0 ≤ Xi T61 904 98 ∧ Xi T61 904 98 ≤ 1700 := hHT61.c _ _
      exact Rl_weak (C149 T61 hHT61 hFT61  (by omega) (by omega) (by omega) (by omega) (by omega) (by omega) (by omega) (by omega) (by omega) (by omega) (by omega) (by omega) (by omega) (by omega) (by omega) (by omega) (q20) (r20) (K20) (by omega)) (And.intro rfl (True.intro))
    | 2, hii =>
      cases hii
      have w3438 : (Xi T61 904 70) = 2 := by simpa using w3384
      have w3439 : 0 ≤ Xi T61 904 106 ∧ Xi T61 904 106 ≤ 9 := hHT61.c _ _
      have w3440 : 0 ≤ Xi T61 904 108 ∧ Xi T61 904 108 ≤ 2600 := hHT61.c _ _
      have w3441 : -1 ≤ Xi T61 904 115 ∧ Xi T61 904 115 ≤ 15 := hHT61.c _ _
      have w3442 : -1 ≤ Xi T61 904 116 ∧ Xi T61 904 116 ≤ 15 := hHT61.c _ _
      have w3443 : 0 ≤ Xi T61 904 117 ∧ Xi T61 904 117 ≤ 480 := hHT61.c _ _
      have w3444 : 0 ≤ Xi T61 904 142 ∧ Xi T61 904 142 ≤ 4 := hHT61.c _ _
      have w3445 : -1 ≤ Xi T61 904 60 ∧ Xi T61 904 60 ≤ 23 := hHT61.c _ _
      have w3446 : 0 ≤ Xi T61 904 69 ∧ Xi T61 904 69 ≤ 2600 := hHT61.c _ _
      have w3447 : 0 ≤ Xi T61 904 70 ∧ Xi T61 904 70 ≤ 20 := hHT61.c _ _
      have w3448 : 0 ≤ Xi T61 904 71 ∧ Xi T61 904 71 ≤ 2600 := hHT61.c _ _
      have w3449 : 0 ≤ Xi T61 904 72 ∧ Xi T61 904 72 ≤ 2600 := hHT61.c _ _
      have w3450 : 0 ≤ Xi T61 904 73 ∧ Xi T61 904 73 ≤ 5 := hHT61.c _ _
      have w3451 : 0 ≤ Xi T61 904 74 ∧ Xi T61 904 74 ≤ 2600 := hHT61.c _ _
      have w3452 : -2 ≤ Xi T61 904 78 ∧ Xi T61 904 78 ≤ 5010 := hHT61.c _ _
      have w3453 : 0 ≤ Xi T61 904 81 ∧ Xi T61 904 81 ≤ 5010 := hHT61.c _ _
      have w3454 : 0 ≤ Xi T61 904 94 ∧ Xi T61 904 94 ≤ 1700 := hHT61.c _ _
      have w3455 : 0 ≤ Xi T61 904 98 ∧ Xi T61 904 98 ≤ 1700 := hHT61.c _ _
      exact Rl_weak (C156 T61 hHT61 hFT61  (by omega) (by omega) (by omega) (by omega) (by omega) (by omega) (by omega) (by omega) (by omega) (by omega) (by omega) (by omega) (by omega) (by omega) (by omega) (by omega) (q20) (r20) (K20) (by omega)) (And.intro rfl (True.intro))
    | 3, hii =>
      cases hii
      have w3456 : (Xi T61 904 70) = 3 := by simpa using w3384
      have w3457 : 0 ≤ Xi T61 904 106 ∧ Xi T61 904 106 ≤ 9 := hHT61.c _ _
      have w3458 : 0 ≤ Xi T61 904 108 ∧ Xi T61 904 108 ≤ 2600 := hHT61.c _ _
      have w3459 : -1 ≤ Xi T61 904 115 ∧ Xi T61 904 115 ≤ 15 := hHT61.c _ _
      have w3460 : -1 ≤ Xi T61 904 116 ∧ Xi T61 904 116 ≤ 15 := hHT61.c _ _
      have w3461 : 0 ≤ Xi T61 904 117 ∧ Xi T61 904 117 ≤ 480 := hHT61.c _ _
      have w3462 : 0 ≤ Xi T61 904 142 ∧ Xi T61 904 142 ≤ 4 := hHT61.c _ _
      have w3463 : -1 ≤ Xi T61 904 60 ∧ Xi T61 904 60 ≤ 23 := hHT61.c _ _
      have w3464 : 0 ≤ Xi T61 904 69 ∧ Xi T61 904 69 ≤ 2600 := hHT61.c _ _
      have w3465 : 0 ≤ Xi T61 904 70 ∧ Xi T61 904 70 ≤ 20 := hHT61.c _ _
      have w3466 : 0 ≤ Xi T61 904 71 ∧ Xi T61 904 71 ≤ 2600 := hHT61.c _ _
      have w3467 : 0 ≤ Xi T61 904 72 ∧ Xi T61 904 72 ≤ 2600 := hHT61.c _ _
      have w3468 : 0 ≤ Xi T61 904 73 ∧ Xi T61 904 73 ≤ 5 := hHT61.c _ _
      have w3469 : 0 ≤ Xi T61 904 74 ∧ Xi T61 904 74 ≤ 2600 := hHT61.c _ _
      have w3470 : -2 ≤ Xi T61 904 78 ∧ Xi T61 904 78 ≤ 5010 := hHT61.c _ _
      have w3471 : 0 ≤ Xi T61 904 81 ∧ Xi T61 904 81 ≤ 5010 := hHT61.c _ _
      have w3472 : 0 ≤ Xi T61 904 94 ∧ Xi T61 904 94 ≤ 1700 := hHT61.c _ _
      have w3473 : 0 ≤ Xi T61 904 98 ∧ Xi T61 904 98 ≤ 1700 := hHT61.c _ _
      exact Rl_weak (C526 T61 hHT61 hFT61  (by omega) (by omega) (by omega) (by omega) (by omega) (by omega) (by omega) (by omega) (by omega) (by omega) (by omega) (by omega) (by first | assumption | exact fun k hk => absurd hk (by omega) | exact (by assumption : NWV T61)) (r20) (by omega) (q20)) (And.intro rfl (And.intro rfl (True.intro)))
    | 4, hii =>
      cases hii
      have w3474 : (Xi T61 904 70) = 4 := by simpa using w3384
      have w3475 : 0 ≤ Xi T61 904 106 ∧ Xi T61 904 106 ≤ 9 := hHT61.c _ _
      have w3476 : 0 ≤ Xi T61 904 108 ∧ Xi T61 904 108 ≤ 2600 := hHT61.c _ _
      have w3477 : -1 ≤ Xi T61 904 115 ∧ Xi T61 904 115 ≤ 15 := hHT61.c _ _
      have w3478 : -1 ≤ Xi T61 904 116 ∧ Xi T61 904 116 ≤ 15 := hHT61.c _ _
      have w3479 : 0 ≤ Xi T61 904 117 ∧ Xi T61 904 117 ≤ 480 := hHT61.c _ _
      have w3480 : 0 ≤ Xi T61 904 142 ∧ Xi T61 904 142 ≤ 4 := hHT61.c _ _
      have w3481 : -1 ≤ Xi T61 904 60 ∧ Xi T61 904 60 ≤ 23 := hHT61.c _ _
      have w3482 : 0 ≤ Xi T61 904 69 ∧ Xi T61 904 69 ≤ 2600 := hHT61.c _ _
      have w3483 : 0 ≤ Xi T61 904 70 ∧ Xi T61 904 70 ≤ 20 := hHT61.c _ _
      have w3484 : 0 ≤ Xi T61 904 71 ∧ Xi T61 904 71 ≤ 2600 := hHT61.c _ _
      have w3485 : 0 ≤ Xi T61 904 72 ∧ Xi T61 904 72 ≤ 2600 := hHT61.c _ _
      have w3486 : 0 ≤ Xi T61 904 73 ∧ Xi T61 904 73 ≤ 5 := hHT61.c _ _
      have w3487 : 0 ≤ Xi T61 904 74 ∧ Xi T61 904 74 ≤ 2600 := hHT61.c _ _
      have w3488 : -2 ≤ Xi T61 904 78 ∧ Xi T61 904 78 ≤ 5010 := hHT61.c _ _
      have w3489 : 0 ≤ Xi T61 904 81 ∧ Xi T61 904 81 ≤ 5010 := hHT61.c _ _
      have w3490 : 0 ≤ Xi T61 904 94 ∧ Xi T61 904 94 ≤ 1700 := hHT61.c _ _
      have w3491 : 0 ≤ Xi T61 904 98 ∧ Xi T61 904 98 ≤ 1700 := hHT61.c _ _
      exact Rl_weak (C526 T61 hHT61 hFT61  (by omega) (by omega) (by omega) (by omega) (by omega) (by omega) (by omega) (by omega) (by omega) (by omega) (by omega) (by omega) (by first | assumption | exact fun k hk => absurd hk (by omega) | exact (by assumption : NWV T61)) (r20) (by omega) (q20)) (And.intro rfl (And.intro rfl (True.intro)))
    | 5, hii =>
      cases hii
      have w3492 : (Xi T61 904 70) = 5 := by simpa using w3384
      have w3493 : 0 ≤ Xi T61 904 106 ∧ Xi T61 904 106 ≤ 9 := hHT61.c _ _
      have w3494 : 0 ≤ Xi T61 904 108 ∧ Xi T61 904 108 ≤ 2600 := hHT61.c _ _
      have w3495 : -1 ≤ Xi T61 904 115 ∧ Xi T61 904 115 ≤ 15 := hHT61.c _ _
      have w3496 : -1 ≤ Xi T61 904 116 ∧ Xi T61 904 116 ≤ 15 := hHT61.c _ _
      have w3497 : 0 ≤ Xi T61 904 117 ∧ Xi T61 904 117 ≤ 480 := hHT61.c _ _
      have w3498 : 0 ≤ Xi T61 904 142 ∧ Xi T61 904 142 ≤ 4 := hHT61.c _ _
      have w3499 : -1 ≤ Xi T61 904 60 ∧ Xi T61 904 60 ≤ 23 := hHT61.c _ _
      have w3500 : 0 ≤ Xi T61 904 69 ∧ Xi T61 904 69 ≤ 2600 := hHT61.c _ _
      have w3501 : 0 ≤ Xi T61 904 70 ∧ Xi T61 904 70 ≤ 20 := hHT61.c _ _
      have w3502 : 0 ≤ Xi T61 904 71 ∧ Xi T61 904 71 ≤ 2600 := hHT61.c _ _
      have w3503 : 0 ≤ Xi T61 904 72 ∧ Xi T61 904 72 ≤ 2600 := hHT61.c _ _
      have w3504 : 0 ≤ Xi T61 904 73 ∧ Xi T61 904 73 ≤ 5 := hHT61.c _ _
      have w3505 : 0 ≤ Xi T61 904 74 ∧ Xi T61 904 74 ≤ 2600 := hHT61.c _ _
      have w3506 : -2 ≤ Xi T61 904 78 ∧ Xi T61 904 78 ≤ 5010 := hHT61.c _ _
      have w3507 : 0 ≤ Xi T61 904 81 ∧ Xi T61 904 81 ≤ 5010 := hHT61.c _ _
      have w3508 : 0 ≤ Xi T61 904 94 ∧ Xi T61 904 94 ≤ 1700 := hHT61.c _ _
      have w3509 : 0 ≤ Xi T61 904 98 ∧ Xi T61 904 98 ≤ 1700 := hHT61.c _ _
      exact Rl_weak (C526 T61 hHT61 hFT61  (by omega) (by omega) (by omega) (by omega) (by omega) (by omega) (by omega) (by omega) (by omega) (by omega) (by omega) (by omega) (by first | assumption | exact fun k hk => absurd hk (by omega) | exact (by assumption : NWV T61)) (r20) (by omega) (q20)) (And.intro rfl (And.intro rfl (True.intro)))
    | 6, hii =>
      cases hii
      have w3510 : (Xi T61 904 70) = 6 := by simpa using w3384
      have w3511 : 0 ≤ Xi T61 904 106 ∧ Xi T61 904 106 ≤ 9 := hHT61.c _ _
      have w3512 : 0 ≤ Xi T61 904 108 ∧ Xi T61 904 108 ≤ 2600 := hHT61.c _ _
      have w3513 : -1 ≤ Xi T61 904 115 ∧ Xi T61 904 115 ≤ 15 := hHT61.c _ _
      have w3514 : -1 ≤ Xi T61 904 116 ∧ Xi T61 904 116 ≤ 15 := hHT61.c _ _
      have w3515 : 0 ≤ Xi T61 904 117 ∧ Xi T61 904 117 ≤ 480 := hHT61.c _ _
      have w3516 : 0 ≤ Xi T61 904 142 ∧ Xi T61 904 142 ≤ 4 := hHT61.c _ _
      have w3517 : -1 ≤ Xi T61 904 60 ∧ Xi T61 904 60 ≤ 23 := hHT61.c _ _
      have w3518 : 0 ≤ Xi T61 904 69 ∧ Xi T61 904 69 ≤ 2600 := hHT61.c _ _
      have w3519 : 0 ≤ Xi T61 904 70 ∧ Xi T61 904 70 ≤ 20 := hHT61.c _ _
      have w3520 : 0 ≤ Xi T61 904 71 ∧ Xi T61 904 71 ≤ 2600 := hHT61.c _ _
      have w3521 : 0 ≤ Xi T61 904 72 ∧ Xi T61 904 72 ≤ 2600 := hHT61.c _ _
      have w3522 : 0 ≤ Xi T61 904 73 ∧ Xi T61 904 73 ≤ 5 := hHT61.c _ _
      have w3523 : 0 ≤ Xi T61 904 74 ∧ Xi T61 904 74 ≤ 2600 := hHT61.c _ _
      have w3524 : -2 ≤ Xi T61 904 78 ∧ Xi T61 904 78 ≤ 5010 := hHT61.c _ _
      have w3525 : 0 ≤ Xi T61 904 81 ∧ Xi T61 904 81 ≤ 5010 := hHT61.c _ _
      have w3526 : 0 ≤ Xi T61 904 94 ∧ Xi T61 904 94 ≤ 1700 := hHT61.c _ _
      have w3527 : 0 ≤ Xi T61 904 98 ∧ Xi T61 904 98 ≤ 1700 := hHT61.c _ _
      exact Rl_weak (C526 T61 hHT61 hFT61  (by omega) (by omega) (by omega) (by omega) (by omega) (by omega) (by omega) (by omega) (by omega) (by omega) (by omega) (by omega) (by first | assumption | exact fun k hk => absurd hk (by omega) | exact (by assumption : NWV T61)) (r20) (by omega) (q20)) (And.intro rfl (And.intro rfl (True.intro)))
    | 7, hii =>
      cases hii
      have w3528 : (Xi T61 904 70) = 7 := by simpa using w3384
      have w3529 : 0 ≤ Xi T61 904 106 ∧ Xi T61 904 106 ≤ 9 := hHT61.c _ _
      have w3530 : 0 ≤ Xi T61 904 108 ∧ Xi T61 904 108 ≤ 2600 := hHT61.c _ _
      have w3531 : -1 ≤ Xi T61 904 115 ∧ Xi T61 904 115 ≤ 15 := hHT61.c _ _
      have w3532 : -1 ≤ Xi T61 904 116 ∧ Xi T61 904 116 ≤ 15 := hHT61.c _ _
      have w3533 : 0 ≤ Xi T61 904 117 ∧ Xi T61 904 117 ≤ 480 := hHT61.c _ _
      have w3534 : 0 ≤ Xi T61 904 142 ∧ Xi T61 904 142 ≤ 4 := hHT61.c _ _
      have w3535 : -1 ≤ Xi T61 904 60 ∧ Xi T61 904 60 ≤ 23 := hHT61.c _ _
      have w3536 : 0 ≤ Xi T61 904 69 ∧ Xi T61 904 69 ≤ 2600 := hHT61.c _ _
      have w3537 : 0 ≤ Xi T61 904 70 ∧ Xi T61 904 70 ≤ 20 := hHT61.c _ _
      have w3538 : 0 ≤ Xi T61 904 71 ∧ Xi T61 904 71 ≤ 2600 := hHT61.c _ _
      have w3539 : 0 ≤ Xi T61 904 72 ∧ Xi T61 904 72 ≤ 2600 := hHT61.c _ _
      have w3540 : 0 ≤ Xi T61 904 73 ∧ Xi T61 904 73 ≤ 5 := hHT61.c _ _
      have w3541 : 0 ≤ Xi T61 904 74 ∧ Xi T61 904 74 ≤ 2600 := hHT61.c _ _
      have w3542 : -2 ≤ Xi T61 904 78 ∧ Xi T61 904 78 ≤ 5010 := hHT61.c _ _
      have w3543 : 0 ≤ Xi T61 904 81 ∧ Xi T61 904 81 ≤ 5010 := hHT61.c _ _
      have w3544 : 0 ≤ Xi T61 904 94 ∧ Xi T61 904 94 ≤ 1700 := hHT61.c _ _
      have w3545 : 0 ≤ Xi T61 904 98 ∧ Xi T61 904 98 ≤ 1700 := hHT61.c _ _
      exact Rl_weak (C183 T61 hHT61 hFT61  (by omega) (by omega) (by omega) (by omega) (by omega) (by omega) (by omega) (by omega) (by omega) (by omega) (by omega) (by omega) (by omega) (by omega) (by omega) (by omega) (q20) (r20) (K20) (by omega)) (And.intro rfl (True.intro))
    | 8, hii =>
      cases hii
      have w3546 : (Xi T61 904 70) = 8 := by simpa using w3384
      have w3547 : 0 ≤ Xi T61 904 106 ∧ Xi T61 904 106 ≤ 9 := hHT61.c _ _
      have w3548 : 0 ≤ Xi T61 904 108 ∧ Xi T61 904 108 ≤ 2600 := hHT61.c _ _
      have w3549 : -1 ≤ Xi T61 904 115 ∧ Xi T61 904 115 ≤ 15 := hHT61.c _ _
      have w3550 : -1 ≤ Xi T61 904 116 ∧ Xi T61 904 116 ≤ 15 := hHT61.c _ _
      have w3551 : 0 ≤ Xi T61 904 117 ∧ Xi T61 904 117 ≤ 480 := hHT61.c _ _
      have w3552 : 0 ≤ Xi T61 904 142 ∧ Xi T61 904 142 ≤ 4 := hHT61.c _ _
      have w3553 : -1 ≤ Xi T61 904 60 ∧ Xi T61 904 60 ≤ 23 := hHT61.c _ _
      have w3554 : 0 ≤ Xi T61 904 69 ∧ Xi T61 904 69 ≤ 2600 := hHT61.c _ _
      have w3555 : 0 ≤ Xi T61 904 70 ∧ Xi T61 904 70 ≤ 20 := hHT61.c _ _
      have w3556 : 0 ≤ Xi T61 904 71 ∧ Xi T61 904 71 ≤ 2600 := hHT61.c _ _
      have w3557 : 0 ≤ Xi T61 904 72 ∧ Xi T61 904 72 ≤ 2600 := hHT61.c _ _
      have w3558 : 0 ≤ Xi T61 904 73 ∧ Xi T61 904 73 ≤ 5 := hHT61.c _ _
      have w3559 : 0 ≤ Xi T61 904 74 ∧ Xi T61 904 74 ≤ 2600 := hHT61.c _ _
      have w3560 : -2 ≤ Xi T61 904 78 ∧ Xi T61 904 78 ≤ 5010 := hHT61.c _ _
      have w3561 : 0 ≤ Xi T61 904 81 ∧ Xi T61 904 81 ≤ 5010 := hHT61.c _ _
      have w3562 : 0 ≤ Xi T61 904 94 ∧ Xi T61 904 94 ≤ 1700 := hHT61.c _ _
      have w3563 : 0 ≤ Xi T61 904 98 ∧ Xi T61 904 98 ≤ 1700 := hHT61.c _ _
      exact Rl_weak (C190 T61 hHT61 hFT61  (by omega) (by omega) (by omega) (by omega) (by omega) (by omega) (by omega) (by omega) (by omega) (by omega) (by omega) (by omega) (by omega) (by omega) (by omega) (by omega) (q20) (r20) (K20) (by omega)) (And.intro rfl (True.intro))
    | 9, hii =>
      cases hii
      have w3564 : (Xi T61 904 70) = 9 := by simpa using w3384
      have w3565 : 0 ≤ Xi T61 904 106 ∧ Xi T61 904 106 ≤ 9 := hHT61.c _ _
      have w3566 : 0 ≤ Xi T61 904 108 ∧ Xi T61 904 108 ≤ 2600 := hHT61.c _ _
      have w3567 : -1 ≤ Xi T61 904 115 ∧ Xi T61 904 115 ≤ 15 := hHT61.c _ _
      have w3568 : -1 ≤ Xi T61 904 116 ∧ Xi T61 904 116 ≤ 15 := hHT61.c _ _
      have w3569 : 0 ≤ Xi T61 904 117 ∧ Xi T61 904 117 ≤ 480 := hHT61.c _ _
      have w3570 : 0 ≤ Xi T61 904 142 ∧ Xi T61 904 142 ≤ 4 := hHT61.c _ _
      have w3571 : -1 ≤ Xi T61 904 60 ∧ Xi T61 904 60 ≤ 23 := hHT61.c _ _
      have w3572 : 0 ≤ Xi T61 904 69 ∧ Xi T61 904 69 ≤ 2600 := hHT61.c _ _
      have w3573 : 0 ≤ Xi T61 904 70 ∧ Xi T61 904 70 ≤ 20 := hHT61.c _ _
      have w3574 : 0 ≤ Xi T61 904 71 ∧ Xi T61 904 71 ≤ 2600 := hHT61.c _ _
      have w3575 : 0 ≤ Xi T61 904 72 ∧ Xi T61 904 72 ≤ 2600 := hHT61.c _ _
      have w3576 : 0 ≤ Xi T61 904 73 ∧ Xi T61 904 73 ≤ 5 := hHT61.c _ _
      have w3577 : 0 ≤ Xi T61 904 74 ∧ Xi T61 904 74 ≤ 2600 := hHT61.c _ _
      have w3578 : -2 ≤ Xi T61 904 78 ∧ Xi T61 904 78 ≤ 5010 := hHT61.c _ _
      have w3579 : 0 ≤ Xi T61 904 81 ∧ Xi T61 904 81 ≤ 5010 := hHT61.c _ _
      have w3580 : 0 ≤ Xi T61 904 94 ∧ Xi T61 904 94 ≤ 1700 := hHT61.c _ _
      have w3581 : 0 ≤ Xi T61 904 98 ∧ Xi T61 904 98 ≤ 1700 := hHT61.c _ _
      exact Rl_weak (C234 T61 hHT61 hFT61  (by omega) (by omega) (by omega) (by omega) (by omega) (by omega) (by omega) (by omega) (by omega) (by omega) (by omega) (by omega) (by omega) (by omega) (by omega) (by omega) (q20) (r20) (K20) (by omega)) (And.intro rfl (True.intro))
    | 10, hii =>
      cases hii
      have w3582 : (Xi T61 904 70) = 10 := by simpa using w3384
      have w3583 : 0 ≤ Xi T61 904 106 ∧ Xi T61 904 106 ≤ 9 := hHT61.c _ _
      have w3584 : 0 ≤ Xi T61 904 108 ∧ Xi T61 904 108 ≤ 2600 := hHT61.c _ _
      have w3585 : -1 ≤ Xi T61 904 115 ∧ Xi T61 904 115 ≤ 15 := hHT61.c _ _
      have w3586 : -1 ≤ Xi T61 904 116 ∧ Xi T61 904 116 ≤ 15 := hHT61.c _ _
      have w3587 : 0 ≤ Xi T61 904 117 ∧ Xi T61 904 117 ≤ 480 := hHT61.c _ _
      have w3588 : 0 ≤ Xi T61 904 142 ∧ Xi T61 904 142 ≤ 4 := hHT61.c _ _
      have w3589 : -1 ≤ Xi T61 904 60 ∧ Xi T61 904 60 ≤ 23 := hHT61.c _ _
      have w3590 : 0 ≤ Xi T61 904 69 ∧ Xi T61 904 69 ≤ 2600 := hHT61.c _ _
      have w3591 : 0 ≤ Xi T61 904 70 ∧ Xi T61 904 70 ≤ 20 := hHT61.c _ _
      have w3592 : 0 ≤ Xi T61 904 71 ∧ Xi T61 904 71 ≤ 2600 := hHT61.c _ _
      have w3593 : 0 ≤ Xi T61 904 72 ∧ Xi T61 904 72 ≤ 2600 := hHT61.c _ _
      have w3594 : 0 ≤ Xi T61 904 73 ∧ Xi T61 904 73 ≤ 5 := hHT61.c _ _
      have w3595 : 0 ≤ Xi T61 904 74 ∧ Xi T61 904 74 ≤ 2600 := hHT61.c _ _
      have w3596 : -2 ≤ Xi T61 904 78 ∧ Xi T61 904 78 ≤ 5010 := hHT61.c _ _
      have w3597 : 0 ≤ Xi T61 904 81 ∧ Xi T61 904 81 ≤ 5010 := hHT61.c _ _
      have w3598 : 0 ≤ Xi T61 904 94 ∧ Xi T61 904 94 ≤ 1700 := hHT61.c _ _
      have w3599 : 0 ≤ Xi T61 904 98 ∧ Xi T61 904 98 ≤ 1700 := hHT61.c _ _
      exact Rl_weak (C241 T61 hHT61 hFT61  (by omega) (by omega) (by omega) (by omega) (by omega) (by omega) (by omega) (by omega) (by omega) (by omega) (by omega) (by omega) (by omega) (by omega) (by omega) (by omega) (q20) (r20) (K20) (by omega)) (And.intro rfl (True.intro))
    | 11, hii =>
      cases hii
      have w3600 : (Xi T61 904 70) = 11 := by simpa using w3384
      have w3601 : 0 ≤ Xi T61 904 106 ∧ Xi T61 904 106 ≤ 9 := hHT61.c _ _
      have w3602 : 0 ≤ Xi T61 904 108 ∧ Xi T61 904 108 ≤ 2600 := hHT61.c _ _
      have w3603 : -1 ≤ Xi T61 904 115 ∧ Xi T61 904 115 ≤ 15 := hHT61.c _ _
      have w3604 : -1 ≤ Xi T61 904 116 ∧ Xi T61 904 116 ≤ 15 := hHT61.c _ _
      have w3605 : 0 ≤ Xi T61 904 117 ∧ Xi T61 904 117 ≤ 480 := hHT61.c _ _
      have w3606 : 0 ≤ Xi T61 904 142 ∧ Xi T61 904 142 ≤ 4 := hHT61.c _ _
      have w3607 : -1 ≤ Xi T61 904 60 ∧ Xi T61 904 60 ≤ 23 := hHT61.c _ _
      have w3608 : 0 ≤ Xi T61 904 69 ∧ Xi T61 904 69 ≤ 2600 := hHT61.c _ _
      have w3609 : 0 ≤ Xi T61 904 70 ∧ Xi T61 904 70 ≤ 20 := hHT61.c _ _
      have w3610 : 0 ≤ Xi T61 904 71 ∧ Xi T61 904 71 ≤ 2600 := hHT61.c _ _
      have w3611 : 0 ≤ Xi T61 904 72 ∧ Xi T61 904 72 ≤ 2600 := hHT61.c _ _
      have w3612 : 0 ≤ Xi T61 904 73 ∧ Xi T61 904 73 ≤ 5 := hHT61.c _ _
      have w3613 : 0 ≤ Xi T61 904 74 ∧ Xi T61 904 74 ≤ 2600 := hHT61.c _ _
      have w3614 : -2 ≤ Xi T61 904 78 ∧ Xi T61 904 78 ≤ 5010 := hHT61.c _ _
      have w3615 : 0 ≤ Xi T61 904 81 ∧ Xi T61 904 81 ≤ 5010 := hHT61.c _ _
      have w3616 : 0 ≤ Xi T61 904 94 ∧ Xi T61 904 94 ≤ 1700 := hHT61.c _ _
      have w3617 : 0 ≤ Xi T61 904 98 ∧ Xi T61 904 98 ≤ 1700 := hHT61.c _ _
      exact Rl_weak (C241 T61 hHT61 hFT61  (by omega) (by omega) (by omega) (by omega) (by omega) (by omega) (by omega) (by omega) (by omega) (by omega) (by omega) (by omega) (by omega) (by omega) (by omega) (by omega) (q20) (r20) (K20) (by omega)) (And.intro rfl (True.intro))
    | 12, hii =>
      cases hii
      have w3618 : (Xi T61 904 70) = 12 := by simpa using w3384
      have w3619 : 0 ≤ Xi T61 904 106 ∧ Xi T61 904 106 ≤ 9 := hHT61.c _ _
      have w3620 : 0 ≤ Xi T61 904 108 ∧ Xi T61 904 108 ≤ 2600 := hHT61.c _ _
      have w3621 : -1 ≤ Xi T61 904 115 ∧ Xi T61 904 115 ≤ 15 := hHT61.c _ _
      have w3622 : -1 ≤ Xi T61 904 116 ∧ Xi T61 904 116 ≤ 15 := hHT61.c _ _
      have w3623 : 0 ≤ Xi T61 904 117 ∧ Xi T61 904 117 ≤ 480 := hHT61.c _ _
      have w3624 : 0 ≤ Xi T61 904 142 ∧ Xi T61 904 142 ≤ 4 := hHT61.c _ _
      have w3625 : -1 ≤ Xi T61 904 60 ∧ Xi T61 904 60 ≤ 23 := hHT61.c _ _
      have w3626 : 0 ≤ Xi T61 904 69 ∧ Xi T61 904 69 ≤ 2600 := hHT61.c _ _
      have w3627 : 0 ≤ Xi T61 904 70 ∧ Xi T61 904 70 ≤ 20 := hHT61.c _ _
      have w3628 : 0 ≤ Xi T61 904 71 ∧ Xi T61 904 71 ≤ 2600 := hHT61.c _ _
      have w3629 : 0 ≤ Xi T61 904 72 ∧ Xi T61 904 72 ≤ 2600 := hHT61.c _ _
      have w3630 : 0 ≤ Xi T61 904 73 ∧ Xi T61 904 73 ≤ 5 := hHT61.c _ _
      have w3631 : 0 ≤ Xi T61 904 74 ∧ Xi T61 904 74 ≤ 2600 := hHT61.c _ _
      have w3632 : -2 ≤ Xi T61 904 78 ∧ Xi T61 904 78 ≤ 5010 := hHT61.c _ _
      have w3633 : 0 ≤ Xi T61 904 81 ∧ Xi T61 904 81 ≤ 5010 := hHT61.c _ _
      have w3634 : 0 ≤ Xi T61 904 94 ∧ Xi T61 904 94 ≤ 1700 := hHT61.c _ _
      have w3635 : 0 ≤ Xi T61 904 98 ∧ Xi T61 904 98 ≤ 1700 := hHT61.c _ _
      exact Rl_weak (C248 T61 hHT61 hFT61  (by omega) (by omega) (by omega) (by omega) (by omega) (by omega) (by omega) (by omega) (by omega) (by omega) (by omega) (by omega) (by omega) (by omega) (by omega) (by omega) (q20) (r20) (K20) (by omega)) (And.intro rfl (True.intro))
    | 13, hii =>
      cases hii
      have w3636 : (Xi T61 904 70) = 13 := by simpa using w3384
      have w3637 : 0 ≤ Xi T61 904 106 ∧ Xi T61 904 106 ≤ 9 := hHT61.c _ _
      have w3638 : 0 ≤ Xi T61 904 108 ∧ Xi T61 904 108 ≤ 2600 := hHT61.c _ _
      have w3639 : -1 ≤ Xi T61 904 115 ∧ Xi T61 904 115 ≤ 15 := hHT61.c _ _
      have w3640 : -1 ≤ Xi T61 904 116 ∧ Xi T61 904 116 ≤ 15 := hHT61.c _ _
      have w3641 : 0 ≤ Xi T61 904 117 ∧ Xi T61 904 117 ≤ 480 := hHT61.c _ _
      have w3642 : 0 ≤ Xi T61 904 142 ∧ Xi T61 904 142 ≤ 4 := hHT61.c _ _
      have w3643 : -1 ≤ Xi T61 904 60 ∧ Xi T61 904 60 ≤ 23 := hHT61.c _ _
      have w3644 : 0 ≤ Xi T61 904 69 ∧ Xi T61 904 69 ≤ 2600 := hHT61.c _ _
      have w3645 : 0 ≤ Xi T61 904 70 ∧ Xi T61 904 70 ≤ 20 := hHT61.c _ _
      have w3646 : 0 ≤ Xi T61 904 71 ∧ Xi T61 904 71 ≤ 2600 := hHT61.c _ _
      have w3647 : 0 ≤ Xi T61 904 72 ∧ Xi T61 904 72 ≤ 2600 := hHT61.c _ _
      have w3648 : 0 ≤ Xi T61 904 73 ∧ Xi T61 904 73 ≤ 5 := hHT61.c _ _
      have w3649 : 0 ≤ Xi T61 904 74 ∧ Xi T61 904 74 ≤ 2600 := hHT61.c _ _
      have w3650 : -2 ≤ Xi T61 904 78 ∧ Xi T61 904 78 ≤ 5010 := hHT61.c _ _
      have w3651 : 0 ≤ Xi T61 904 81 ∧ Xi T61 904 81 ≤ 5010 := hHT61.c _ _
      have w3652 : 0 ≤ Xi T61 904 94 ∧ Xi T61 904 94 ≤ 1700 := hHT61.c _ _
      have w3653 : 0 ≤ Xi T61 904 98 ∧ Xi T61 904 98 ≤ 1700 := hHT61.c _ _
      exact Rl_weak (C302 T61 hHT61 hFT61  (by omega) (by omega) (by omega) (by omega) (by omega) (by omega) (by omega) (by omega) (by omega) (by omega) (by omega) (by omega) (by omega) (by omega) (by omega) (by omega) (q20) (r20) (K20) (by omega)) (And.intro rfl (True.intro))
    | 14, hii =>
      cases hii
      have w3654 : (Xi T61 904 70) = 14 := by simpa using w3384
      have w3655 : 0 ≤ Xi T61 904 106 ∧ Xi T61 904 106 ≤ 9 := hHT61.c _ _
      have w3656 : 0 ≤ Xi T61 904 108 ∧ Xi T61 904 108 ≤ 2600 := hHT61.c _ _
      have w3657 : -1 ≤ Xi T61 904 115 ∧ Xi T61 904 115 ≤ 15 := hHT61.c _ _
      have w3658 : -1 ≤ Xi T61 904 116 ∧ Xi T61 904 116 ≤ 15 := hHT61.c _ _
      have w3659 : 0 ≤ Xi T61 904 117 ∧ Xi T61 904 117 ≤ 480 := hHT61.c _ _
      have w3660 : 0 ≤ Xi T61 904 142 ∧ Xi T61 904 142 ≤ 4 := hHT61.c _ _
      have w3661 : -1 ≤ Xi T61 904 60 ∧ Xi T61 904 60 ≤ 23 := hHT61.c _ _
      have w3662 : 0 ≤ Xi T61 904 69 ∧ Xi T61 904 69 ≤ 2600 := hHT61.c _ _
      have w3663 : 0 ≤ Xi T61 904 70 ∧ Xi T61 904 70 ≤ 20 := hHT61.c _ _
      have w3664 : 0 ≤ Xi T61 904 71 ∧ Xi T61 904 71 ≤ 2600 := hHT61.c _ _
      have w3665 : 0 ≤ Xi T61 904 72 ∧ Xi T61 904 72 ≤ 2600 := hHT61.c _ _
      have w3666 : 0 ≤ Xi T61 904 73 ∧ Xi T61 904 73 ≤ 5 := hHT61.c _ _
      have w3667 : 0 ≤ Xi T61 904 74 ∧ Xi T61 904 74 ≤ 2600 := hHT61.c _ _
      have w3668 : -2 ≤ Xi T61 904 78 ∧ Xi T61 904 78 ≤ 5010 := hHT61.c _ _
      have w3669 : 0 ≤ Xi T61 904 81 ∧ Xi T61 904 81 ≤ 5010 := hHT61.c _ _
      have w3670 : 0 ≤ Xi T61 904 94 ∧ Xi T61 904 94 ≤ 1700 := hHT61.c _ _
      have w3671 : 0 ≤ Xi T61 904 98 ∧ Xi T61 904 98 ≤ 1700 := hHT61.c _ _
      exact Rl_weak (C313 T61 hHT61 hFT61  (by omega) (by omega) (by omega) (by omega) (by omega) (by omega) (by omega) (by omega) (by omega) (by omega) (by omega) (by omega) (by omega) (by omega) (by omega) (by omega) (q20) (r20) (K20) (by omega)) (And.intro rfl (True.intro))
    | 15, hii =>
      cases hii
      have w3672 : (Xi T61 904 70) = 15 := by simpa using w3384
      have w3673 : 0 ≤ Xi T61 904 106 ∧ Xi T61 904 106 ≤ 9 := hHT61.c _ _
      have w3674 : 0 ≤ Xi T61 904 108 ∧ Xi T61 904 108 ≤ 2600 := hHT61.c _ _
      have w3675 : -1 ≤ Xi T61 904 115 ∧ Xi T61 904 115 ≤ 15 := hHT61.c _ _
      have w3676 : -1 ≤ Xi T61 904 116 ∧ Xi T61 904 116 ≤ 15 := hHT61.c _ _
      have w3677 : 0 ≤ Xi T61 904 117 ∧ Xi T61 904 117 ≤ 480 := hHT61.c _ _
      have w3678 : 0 ≤ Xi T61 904 142 ∧ Xi T61 904 142 ≤ 4 := hHT61.c _ _
      have w3679 : -1 ≤ Xi T61 904 60 ∧ Xi T61 904 60 ≤ 23 := hHT61.c _ _
      have w3680 : 0 ≤ Xi T61 904 69 ∧ Xi T61 904 69 ≤ 2600 := hHT61.c _ _
      have w3681 : 0 ≤ Xi T61 904 70 ∧ Xi T61 904 70 ≤ 20 := hHT61.c _ _
      have w3682 : 0 ≤ Xi T61 904 71 ∧ Xi T61 904 71 ≤ 2600 := hHT61.c _ _
      have w3683 : 0 ≤ Xi T61 904 72 ∧ Xi T61 904 72 ≤ 2600 := hHT61.c _ _
      have w3684 : 0 ≤ Xi T61 904 73 ∧ Xi T61 904 73 ≤ 5 := hHT61.c _ _
      have w3685 : 0 ≤ Xi T61 904 74 ∧ Xi T61 904 74 ≤ 2600 := hHT61.c _ _
      have w3686 : -2 ≤ Xi T61 904 78 ∧ Xi T61 904 78 ≤ 5010 := hHT61.c _ _
      have w3687 : 0 ≤ Xi T61 904 81 ∧ Xi T61 904 81 ≤ 5010 := hHT61.c _ _
      have w3688 : 0 ≤ Xi T61 904 94 ∧ Xi T61 904 94 ≤ 1700 := hHT61.c _ _
      have w3689 : 0 ≤ Xi T61 904 98 ∧ Xi T61 904 98 ≤ 1700 := hHT61.c _ _
      exact Rl_weak (C320 T61 hHT61 hFT61  (by omega) (by omega) (by omega) (by omega) (by omega) (by omega) (by omega) (by omega) (by omega) (by omega) (by omega) (by omega) (by omega) (by omega) (by omega) (by omega) (q20) (r20) (K20) (by omega)) (And.intro rfl (True.intro))
    | 16, hii =>
      cases hii
      have w3690 : (Xi T61 904 70) = 16 := by simpa using w3384
      have w3691 : 0 ≤ Xi T61 904 106 ∧ Xi T61 904 106 ≤ 9 := hHT61.c _ _
      have w3692 : 0 ≤ Xi T61 904 108 ∧ Xi T61 904 108 ≤ 2600 := hHT61.c _ _
      have w3693 : -1 ≤ Xi T61 904 115 ∧ Xi T61 904 115 ≤ 15 := hHT61.c _ _
      have w3694 : -1 ≤ Xi T61 904 116 ∧ Xi T61 904 116 ≤ 15 := hHT61.c _ _
      have w3695 : 0 ≤ Xi T61 904 117 ∧ Xi T61 904 117 ≤ 480 := hHT61.c _ _
      have w3696 : 0 ≤ Xi T61 904 142 ∧ Xi T61 904 142 ≤ 4 := hHT61.c _ _
      have w3697 : -1 ≤ Xi T61 904 60 ∧ Xi T61 904 60 ≤ 23 := hHT61.c _ _
      have w3698 : 0 ≤ Xi T61 904 69 ∧ Xi T61 904 69 ≤ 2600 := hHT61.c _ _
      have w3699 : 0 ≤ Xi T61 904 70 ∧ Xi T61 904 70 ≤ 20 := hHT61.c _ _
      have w3700 : 0 ≤ Xi T61 904 71 ∧ Xi T61 904 71 ≤ 2600 := hHT61.c _ _
      have w3701 : 0 ≤ Xi T61 904 72 ∧ Xi T61 904 72 ≤ 2600 := hHT61.c _ _
      have w3702 : 0 ≤ Xi T61 904 73 ∧ Xi T61 904 73 ≤ 5 := hHT61.c _ _
      have w3703 : 0 ≤ Xi T61 904 74 ∧ Xi T61 904 74 ≤ 2600 := hHT61.c _ _
      have w3704 : -2 ≤ Xi T61 904 78 ∧ Xi T61 904 78 ≤ 5010 := hHT61.c _ _
      have w3705 : 0 ≤ Xi T61 904 81 ∧ Xi T61 904 81 ≤ 5010 := hHT61.c _ _
      have w3706 : 0 ≤ Xi T61 904 94 ∧ Xi T61 904 94 ≤ 1700 := hHT61.c _ _
      have w3707 : 0 ≤ Xi T61 904 98 ∧ Xi T61 904 98 ≤ 1700 := hHT61.c _ _
      exact Rl_weak (C320 T61 hHT61 hFT61  (by omega) (by omega) (by omega) (by omega) (by omega) (by omega) (by omega) (by omega) (by omega) (by omega) (by omega) (by omega) (by omega) (by omega) (by omega) (by omega) (q20) (r20) (K20) (by omega)) (And.intro rfl (True.intro))
    | 17, hii =>
      cases hii
      have w3708 : (Xi T61 904 70) = 17 := by simpa using w3384
      have w3709 : 0 ≤ Xi T61 904 106 ∧ Xi T61 904 106 ≤ 9 := hHT61.c _ _
      have w3710 : 0 ≤ Xi T61 904 108 ∧ Xi T61 904 108 ≤ 2600 := hHT61.c _ _
      have w3711 : -1 ≤ Xi T61 904 115 ∧ Xi T61 904 115 ≤ 15 := hHT61.c _ _
      have w3712 : -1 ≤ Xi T61 904 116 ∧ Xi T61 904 116 ≤ 15 := hHT61.c _ _
      have w3713 : 0 ≤ Xi T61 904 117 ∧ Xi T61 904 117 ≤ 480 := hHT61.c _ _
      have w3714 : 0 ≤ Xi T61 904 142 ∧ Xi T61 904 142 ≤ 4 := hHT61.c _ _
      have w3715 : -1 ≤ Xi T61 904 60 ∧ Xi T61 904 60 ≤ 23 := hHT61.c _ _
      have w3716 : 0 ≤ Xi T61 904 69 ∧ Xi T61 904 69 ≤ 2600 := hHT61.c _ _
      have w3717 : 0 ≤ Xi T61 904 70 ∧ Xi T61 904 70 ≤ 20 := hHT61.c _ _
      have w3718 : 0 ≤ Xi T61 904 71 ∧ Xi T61 904 71 ≤ 2600 := hHT61.c _ _
      have w3719 : 0 ≤ Xi T61 904 72 ∧ Xi T61 904 72 ≤ 2600 := hHT61.c _ _
      have w3720 : 0 ≤ Xi T61 904 73 ∧ Xi T61 904 73 ≤ 5 := hHT61.c _ _
      have w3721 : 0 ≤ Xi T61 904 74 ∧ Xi T61 904 74 ≤ 2600 := hHT61.c _ _
      have w3722 : -2 ≤ Xi T61 904 78 ∧ Xi T61 904 78 ≤ 5010 := hHT61.c _ _
      have w3723 : 0 ≤ Xi T61 904 81 ∧ Xi T61 904 81 ≤ 5010 := hHT61.c _ _
      have w3724 : 0 ≤ Xi T61 904 94 ∧ Xi T61 904 94 ≤ 1700 := hHT61.c _ _
      have w3725 : 0 ≤ Xi T61 904 98 ∧ Xi T61 904 98 ≤ 1700 := hHT61.c _ _
      exact Rl_weak (C327 T61 hHT61 hFT61  (by omega) (by omega) (by omega) (by omega) (by omega) (by omega) (by omega) (by omega) (by omega) (by omega) (by omega) (by omega) (by omega) (by omega) (by omega) (by omega) (q20) (r20) (K20) (by omega)) (And.intro rfl (True.intro))
    | 18, hii =>
      cases hii
      have w3726 : (Xi T61 904 70) = 18 := by simpa using w3384
      have w3727 : 0 ≤ Xi T61 904 106 ∧ Xi T61 904 106 ≤ 9 := hHT61.c _ _
      have w3728 : 0 ≤ Xi T61 904 108 ∧ Xi T61 904 108 ≤ 2600 := hHT61.c _ _
      have w3729 : -1 ≤ Xi T61 904 115 ∧ Xi T61 904 115 ≤ 15 := hHT61.c _ _
      have w3730 : -1 ≤ Xi T61 904 116 ∧ Xi T61 904 116 ≤ 15 := hHT61.c _ _
      have w3731 : 0 ≤ Xi T61 904 117 ∧ Xi T61 904 117 ≤ 480 := hHT61.c _ _
      have w3732 : 0 ≤ Xi T61 904 142 ∧ Xi T61 904 142 ≤ 4 := hHT61.c _ _
      have w3733 : -1 ≤ Xi T61 904 60 ∧ Xi T61 904 60 ≤ 23 := hHT61.c _ _
      have w3734 : 0 ≤ Xi T61 904 69 ∧ Xi T61 904 69 ≤ 2600 := hHT61.c _ _
      have w3735 : 0 ≤ Xi T61 904 70 ∧ Xi T61 904 70 ≤ 20 := hHT61.c _ _
      have w3736 : 0 ≤ Xi T61 904 71 ∧ Xi T61 904 71 ≤ 2600 := hHT61.c _ _
      have w3737 : 0 ≤ Xi T61 904 72 ∧ Xi T61 904 72 ≤ 2600 := hHT61.c _ _
      have w3738 : 0 ≤ Xi T61 904 73 ∧ Xi T61 904 73 ≤ 5 := hHT61.c _ _
      have w3739 : 0 ≤ Xi T61 904 74 ∧ Xi T61 904 74 ≤ 2600 := hHT61.c _ _
      have w3740 : -2 ≤ Xi T61 904 78 ∧ Xi T61 904 78 ≤ 5010 := hHT61.c _ _
      have w3741 : 0 ≤ Xi T61 904 81 ∧ Xi T61 904 81 ≤ 5010 := hHT61.c _ _
      have w3742 : 0 ≤ Xi T61 904 94 ∧ Xi T61 904 94 ≤ 1700 := hHT61.c _ _
      have w3743 : 0 ≤ Xi T61 904 98 ∧ Xi T61 904 98 ≤ 1700 := hHT61.c _ _
      exact Rl_weak (C410 T61 hHT61 hFT61  (by omega) (by omega) (by omega) (by omega) (by omega) (by omega) (by omega) (by omega) (by omega) (by omega) (by omega) (by omega) (by omega) (by omega) (by omega) (by omega) (q20) (r20) (K20) (by omega)) (And.intro rfl (True.intro))
    | 19, hii =>
      cases hii
      have w3744 : (Xi T61 904 70) = 19 := by simpa using w3384
      have w3745 : 0 ≤ Xi T61 904 106 ∧ Xi T61 904 106 ≤ 9 := hHT61.c _ _
      have w3746 : 0 ≤ Xi T61 904 108 ∧ Xi T61 904 108 ≤ 2600 := hHT61.c _ _
      have w3747 : -1 ≤ Xi T61 904 115 ∧ Xi T61 904 115 ≤ 15 := hHT61.c _ _
      have w3748 : -1 ≤ Xi T61 904 116 ∧ Xi T61 904 116 ≤ 15 := hHT61.c _ _
      have w3749 : 0 ≤ Xi T61 904 117 ∧ Xi T61 904 117 ≤ 480 := hHT61.c _ _
      have w3750 : 0 ≤ Xi T61 904 142 ∧ Xi T61 904 142 ≤ 4 := hHT61.c _ _
      have w3751 : -1 ≤ Xi T61 904 60 ∧ Xi T61 904 60 ≤ 23 := hHT61.c _ _
      have w3752 : 0 ≤ Xi T61 904 69 ∧ Xi T61 904 69 ≤ 2600 := hHT61.c _ _
      have w3753 : 0 ≤ Xi T61 904 70 ∧ Xi T61 904 70 ≤ 20 := hHT61.c _ _
      have w3754 : 0 ≤ Xi T61 904 71 ∧ Xi T61 904 71 ≤ 2600 := hHT61.c _ _
      have w3755 : 0 ≤ Xi T61 904 72 ∧ Xi T61 904 72 ≤ 2600 := hHT61.c _ _
      have w3756 : 0 ≤ Xi T61 904 73 ∧ Xi T61 904 73 ≤ 5 := hHT61.c _ _
      have w3757 : 0 ≤ Xi T61 904 74 ∧ Xi T61 904 74 ≤ 2600 := hHT61.c _ _
      have w3758 : -2 ≤ Xi T61 904 78 ∧ Xi T61 904 78 ≤ 5010 := hHT61.c _ _
      have w3759 : 0 ≤ Xi T61 904 81 ∧ Xi T61 904 81 ≤ 5010 := hHT61.c _ _
      have w3760 : 0 ≤ Xi T61 904 94 ∧ Xi T61 904 94 ≤ 1700 := hHT61.c _ _
      have w3761 : 0 ≤ Xi T61 904 98 ∧ Xi T61 904 98 ≤ 1700 := hHT61.c _ _
      exact Rl_weak (C454 T61 hHT61 hFT61  (by omega) (by omega) (by omega) (by omega) (by omega) (by omega) (by omega) (by omega) (by omega) (by omega) (by omega) (by omega) (by omega) (by omega) (by omega) (by omega) (q20) (r20) (K20) (by omega)) (And.intro rfl (True.intro))
    | 20, hii =>
      cases hii
      have w3762 : (Xi T61 904 70) = 20 := by simpa using w3384
      have w3763 : 0 ≤ Xi T61 904 106 ∧ Xi T61 904 106 ≤ 9 := hHT61.c _ _
      have w3764 : 0 ≤ Xi T61 904 108 ∧ Xi T61 904 108 ≤ 2600 := hHT61.c _ _
      have w3765 : -1 ≤ Xi T61 904 115 ∧ Xi T61 904 115 ≤ 15 := hHT61.c _ _
      have w3766 : -1 ≤ Xi T61 904 116 ∧ Xi T61 904 116 ≤ 15 := hHT61.c _ _
      have w3767 : 0 ≤ Xi T61 904 117 ∧ Xi T61 904 117 ≤ 480 := hHT61.c _ _
      have w3768 : 0 ≤ Xi T61 904 142 ∧ Xi T61 904 142 ≤ 4 := hHT61.c _ _
      have w3769 : -1 ≤ Xi T61 904 60 ∧ Xi T61 904 60 ≤ 23 := hHT61.c _ _
      have w3770 : 0 ≤ Xi T61 904 69 ∧ Xi T61 904 69 ≤ 2600 := hHT61.c _ _
      have w3771 : 0 ≤ Xi T61 904 70 ∧ Xi T61 904 70 ≤ 20 := hHT61.c _ _
      have w3772 : 0 ≤ Xi T61 904 71 ∧ Xi T61 904 71 ≤ 2600 := hHT61.c _ _
      have w3773 : 0 ≤ Xi T61 904 72 ∧ Xi T61 904 72 ≤ 2600 := hHT61.c _ _
      have w3774 : 0 ≤ Xi T61 904 73 ∧ Xi T61 904 73 ≤ 5 := hHT61.c _ _
      have w3775 : 0 ≤ Xi T61 904 74 ∧ Xi T61 904 74 ≤ 2600 := hHT61.c _ _
      have w3776 : -2 ≤ Xi T61 904 78 ∧ Xi T61 904 78 ≤ 5010 := hHT61.c _ _
      have w3777 : 0 ≤ Xi T61 904 81 ∧ Xi T61 904 81 ≤ 5010 := hHT61.c _ _
      have w3778 : 0 ≤ Xi T61 904 94 ∧ Xi T61 904 94 ≤ 1700 := hHT61.c _ _
      have w3779 : 0 ≤ Xi T61 904 98 ∧ Xi T61 904 98 ≤ 1700 := hHT61.c _ _
      exact Rl_weak (C518 T61 hHT61 hFT61  (by omega) (by omega) (by omega) (by omega) (by omega) (by omega) (by omega) (by omega) (by omega) (by omega) (by omega) (by omega) (by omega) (by omega) (by omega) (by omega) (q20) (r20) (K20) (by omega)) (And.intro rfl (And.intro rfl (True.intro)))
    | n + 21, hii => exact absurd hii (by simp)
set_option maxRecDepth 100000 in
set_option maxHeartbeats 8000000 in
theorem t_mo_asked {S : sS} (hH : HI S) (n : Nat) (dd : Nat) (first : Int) (hfirst : 0 ≤ first ∧ first ≤ 5001) (hT : TK S n) (hv : RNV S n) (hM : LXM S) (hB : ABV S) (hC : DCM S) (hK : TXK S n) (hX : TXM S) (hq : SNQ S n) (hap : AP9 S n) (h94 : Xi S 904 94 ≤ 1668) (hRD : RDT S) (hPF : PF S) (hdt : Xi S 904 70 = 20 → first ≤ dd ∧ dd < n ∧ Xi S 907 dd = 46) (d : Nat) : Mt lay0 (d + 13) m_mo_asked [.ref 904, iv first] S (Q_mo_asked S n dd first) := by
  refine Mt_R rfl rfl ?_
  have C526 := c526_mo_asked hH n dd first hfirst hT hv hM hB hC hK hX hq hap h94 hRD hPF hdt d 
  have C124 := c124_mo_asked hH n dd first hfirst hT hv hM hB hC hK hX hq hap h94 hRD hPF hdt d 
  have C149 := c149_mo_asked hH n dd first hfirst hT hv hM hB hC hK hX hq hap h94 hRD hPF hdt d 
  have C156 := c156_mo_asked hH n dd first hfirst hT hv hM hB hC hK hX hq hap h94 hRD hPF hdt d 
  have C183 := c183_mo_asked hH n dd first hfirst hT hv hM hB hC hK hX hq hap h94 hRD hPF hdt d 
  have C224 := c224_mo_asked hH n dd first hfirst hT hv hM hB hC hK hX hq hap h94 hRD hPF hdt d 
  have C190 := c190_mo_asked hH n dd first hfirst hT hv hM hB hC hK hX hq hap h94 hRD hPF hdt d 
  have C234 := c234_mo_asked hH n dd first hfirst hT hv hM hB hC hK hX hq hap h94 hRD hPF hdt d 
  have C241 := c241_mo_asked hH n dd first hfirst hT hv hM hB hC hK hX hq hap h94 hRD hPF hdt d 
  have C248 := c248_mo_asked hH n dd first hfirst hT hv hM hB hC hK hX hq hap h94 hRD hPF hdt d 
  have C302 := c302_mo_asked hH n dd first hfirst hT hv hM hB hC hK hX hq hap h94 hRD hPF hdt d 
  have C313 := c313_mo_asked hH n dd first hfirst hT hv hM hB hC hK hX hq hap h94 hRD hPF hdt d 
  have C320 := c320_mo_asked hH n dd first hfirst hT hv hM hB hC hK hX hq hap h94 hRD hPF hdt d 
  have C358 := c358_mo_asked hH n dd first hfirst hT hv hM hB hC hK hX hq hap h94 hRD hPF hdt d 
  have C327 := c327_mo_asked hH n dd first hfirst hT hv hM hB hC hK hX hq hap h94 hRD hPF hdt d 
  have C427 := c427_mo_asked hH n dd first hfirst hT hv hM hB hC hK hX hq hap h94 hRD hPF hdt d 
  have C410 := c410_mo_asked hH n dd first hfirst hT hv hM hB hC hK hX hq hap h94 hRD hPF hdt d 
  have C490 := c490_mo_asked hH n dd first hfirst hT hv hM hB hC hK hX hq hap h94 hRD hPF hdt d 
  have C454 := c454_mo_asked hH n dd first hfirst hT hv hM hB hC hK hX hq hap h94 hRD hPF hdt d 
  have C518 := c518_mo_asked hH n dd first hfirst hT hv hM hB hC hK hX hq hap h94 hRD hPF hdt d 
  have C20 := c20_mo_asked hH n dd first hfirst hT hv hM hB hC hK hX hq hap h94 hRD hPF hdt d 
  have hF : FR md_mo_asked S S := FR.rf
  have w1 : 0 ≤ Xi S 904 106 ∧ Xi S 904 106 ≤ 9 := hH.c _ _
  have w2 : 0 ≤ Xi S 904 108 ∧ Xi S 904 108 ≤ 2600 := hH.c _ _
  have w3 : -1 ≤ Xi S 904 115 ∧ Xi S 904 115 ≤ 15 := hH.c _ _
  have w4 : -1 ≤ Xi S 904 116 ∧ Xi S 904 116 ≤ 15 := hH.c _ _
  have w5 : 0 ≤ Xi S 904 117 ∧ Xi S 904 117 ≤ 480 := hH.c _ _
  have w6 : 0 ≤ Xi S 904 23 ∧ Xi S 904 23 ≤ 24 := hH.c _ _
  have w7 : 0 ≤ Xi S 904 41 ∧ Xi S 904 41 ≤ 6 := hH.c _ _
  have w8 : -1 ≤ Xi S 904 60 ∧ Xi S 904 60 ≤ 23 := hH.c _ _
  have w9 : 0 ≤ Xi S 904 69 ∧ Xi S 904 69 ≤ 2600 := hH.c _ _
  have w10 : 0 ≤ Xi S 904 70 ∧ Xi S 904 70 ≤ 20 := hH.c _ _
  have w11 : 0 ≤ Xi S 904 71 ∧ Xi S 904 71 ≤ 2600 := hH.c _ _
  have w12 : 0 ≤ Xi S 904 72 ∧ Xi S 904 72 ≤ 2600 := hH.c _ _
  have w13 : 0 ≤ Xi S 904 73 ∧ Xi S 904 73 ≤ 5 := hH.c _ _
  have w14 : 0 ≤ Xi S 904 74 ∧ Xi S 904 74 ≤ 2600 := hH.c _ _
  have w15 : -2 ≤ Xi S 904 78 ∧ Xi S 904 78 ≤ 5010 := hH.c _ _
  have w16 : 0 ≤ Xi S 904 81 ∧ Xi S 904 81 ≤ 5010 := hH.c _ _
  have w17 : 0 ≤ Xi S 904 94 ∧ Xi S 904 94 ≤ 1700 := hH.c _ _
  have w18 : 0 ≤ Xi S 904 98 ∧ Xi S 904 98 ≤ 1700 := hH.c _ _
  have w19 : 0 ≤ Xi S 951 0 ∧ Xi S 951 0 ≤ 5010 := hH.c _ _
  have w20 : 0 ≤ Xi S 951 1 ∧ Xi S 951 1 ≤ 5010 := hH.c _ _
  have hn5 := hT.1
  have hc69 : 0 ≤ Xi S 904 69 ∧ Xi S 904 69 ≤ 2600 := hH.c _ _
  have hc70 : 0 ≤ Xi S 904 70 ∧ Xi S 904 70 ≤ 20 := hH.c _ _
  have hc23 : 0 ≤ Xi S 904 23 ∧ Xi S 904 23 ≤ 24 := hH.c _ _
  have hrf : ∀ r : Int, 0 ≤ r → r < Xi S 904 69 → Xi S 950 r.toNat + Xi S 951 r.toNat ≤ n ∧ 1 ≤ Xi S 951 r.toNat := fun r a b => hv r.toNat (by omega)
  have hq0 : KQL S S (Xi S 904 117) := KQL.rf
  refine l_aload_n rfl rfl ?_
  refine l_iconst rfl ?_
  refine l_pfi rfl rfl rfl rfl ?_
  obtain ⟨U62, eU62⟩ : ∃ T : sS, T = uI S 904 106 (Int32.ofInt 0) := ⟨_, rfl⟩
  rw [← eU62]
  have hHU62 : HI U62 := by rw [eU62]; exact HI_w hH (show 0 ≤ 0 by omega) (show 0 ≤ 9 by omega)
  have hFU62 : FR md_mo_asked S U62 := by rw [eU62]; exact FR.wI hF (mdf_i (r := (904, 905, 106, 107)) (List.mem_of_getElem? (i := 3) rfl) (inR_i (by omega) (by omega) (by omega) (by omega)))
  have w3780 : Xi U62 904 106 = 0 := by rw [eU62]; exact Xi_same (by unfold rg; omega)
  refine l_aload_n rfl rfl ?_
  refine l_iconst rfl ?_
  refine l_pfi rfl rfl rfl rfl ?_
  obtain ⟨U63, eU63⟩ : ∃ T : sS, T = uI U62 904 108 (Int32.ofInt 0) := ⟨_, rfl⟩
  rw [← eU63]
  have hHU63 : HI U63 := by rw [eU63]; exact HI_w hHU62 (show 0 ≤ 0 by omega) (show 0 ≤ 2600 by omega)
  have hFU63 : FR md_mo_asked S U63 := by rw [eU63]; exact FR.wI hFU62 (mdf_i (r := (904, 905, 108, 109)) (List.mem_of_getElem? (i := 4) rfl) (inR_i (by omega) (by omega) (by omega) (by omega)))
  have w3781 : Xi U63 904 108 = 0 := by rw [eU63]; exact Xi_same (by unfold rg; omega)
  refine l_aload_n rfl rfl ?_
  refine l_iconst rfl ?_
  refine l_pfi rfl rfl rfl rfl ?_
  obtain ⟨U64, eU64⟩ : ∃ T : sS, T = uI U63 904 115 (Int32.ofInt (-1)) := ⟨_, rfl⟩
  rw [← eU64]
  have hHU64 : HI U64 := by rw [eU64]; exact HI_w hHU63 (show -1 ≤ (-1) by omega) (show (-1) ≤ 15 by omega)
  have hFU64 : FR md_mo_asked S U64 := by rw [eU64]; exact FR.wI hFU63 (mdf_i (r := (904, 905, 115, 116)) (List.mem_of_getElem? (i := 9) rfl) (inR_i (by omega) (by omega) (by omega) (by omega)))
  have w3782 : Xi U64 904 115 = (-1) := by rw [eU64]; exact Xi_same (by unfold rg; omega)
  refine l_aload_n rfl rfl ?_
  refine l_iconst rfl ?_
  refine l_pfi rfl rfl rfl rfl ?_
  obtain ⟨U65, eU65⟩ : ∃ T : sS, T = uI U64 904 116 (Int32.ofInt (-1)) := ⟨_, rfl⟩
  rw [← eU65]
  have hHU65 : HI U65 := by rw [eU65]; exact HI_w hHU64 (show -1 ≤ (-1) by omega) (show (-1) ≤ 15 by omega)
  have hFU65 : FR md_mo_asked S U65 := by rw [eU65]; exact FR.wI hFU64 (mdf_i (r := (904, 905, 116, 117)) (List.mem_of_getElem? (i := 10) rfl) (inR_i (by omega) (by omega) (by omega) (by omega)))
  have w3783 : Xi U65 904 116 = (-1) := by rw [eU65]; exact Xi_same (by unfold rg; omega)
  have w3784 : Xi U65 904 106 = Xi U62 904 106 := (show Xi U65 904 106 = Xi U64 904 106 from by rw [eU65]; exact Xi_ne (by omega)).trans ( (show Xi U64 904 106 = Xi U63 904 106 from by rw [eU64]; exact Xi_ne (by omega)).trans ((show Xi U63 904 106 = Xi U62 904 106 from by rw [eU63]; exact Xi_ne (by omega))))
  have w3785 : 0 ≤ Xi U62 904 106 ∧ Xi U62 904 106 ≤ 9 := hHU62.c _ _
  have w3786 : Xi U65 904 108 = Xi U63 904 108 := (show Xi U65 904 108 = Xi U64 904 108 from by rw [eU65]; exact Xi_ne (by omega)).trans ((show Xi U64 904 108 = Xi U63 904 108 from by rw [eU64]; exact Xi_ne (by omega)))
  have w3787 : 0 ≤ Xi U63 904 108 ∧ Xi U63 904 108 ≤ 2600 := hHU63.c _ _
  have w3788 : Xi U65 904 109 = Xi S 904 109 := (show Xi U65 904 109 = Xi U64 904 109 from by rw [eU65]; exact Xi_ne (by omega)).trans ( (show Xi U64 904 109 = Xi U63 904 109 from by rw [eU64]; exact Xi_ne (by omega)).trans ( (show Xi U63 904 109 = Xi U62 904 109 from by rw [eU63]; exact Xi_ne (by omega)).trans ((show Xi U62 904 109 = Xi S 904 109 from by rw [eU62]; exact Xi_ne (by omega)))))
  have w3789 : Xi U65 904 115 = Xi U64 904 115 := (show Xi U65 904 115 = Xi U64 904 115 from by rw [eU65]; exact Xi_ne (by omega))
  have w3790 : -1 ≤ Xi U64 904 115 ∧ Xi U64 904 115 ≤ 15 := hHU64.c _ _
  have w3791 : -1 ≤ Xi U65 904 116 ∧ Xi U65 904 116 ≤ 15 := hHU65.c _ _
  have w3792 : Xi U65 904 117 = Xi S 904 117 := (show Xi U65 904 117 = Xi U64 904 117 from by rw [eU65]; exact Xi_ne (by omega)).trans ( (show Xi U64 904 117 = Xi U63 904 117 from by rw [eU64]; exact Xi_ne (by omega)).trans ( (show Xi U63 904 117 = Xi U62 904 117 from by rw [eU63]; exact Xi_ne (by omega)).trans ((show Xi U62 904 117 = Xi S 904 117 from by rw [eU62]; exact Xi_ne (by omega)))))
  have w3793 : 0 ≤ Xi S 904 117 ∧ Xi S 904 117 ≤ 480 := hH.c _ _
  have w3794 : Xi U65 904 142 = Xi S 904 142 := (show Xi U65 904 142 = Xi U64 904 142 from by rw [eU65]; exact Xi_ne (by omega)).trans ( (show Xi U64 904 142 = Xi U63 904 142 from by rw [eU64]; exact Xi_ne (by omega)).trans ( (show Xi U63 904 142 = Xi U62 904 142 from by rw [eU63]; exact Xi_ne (by omega)).trans ((show Xi U62 904 142 = Xi S 904 142 from by rw [eU62]; exact Xi_ne (by omega)))))
  have w3795 : 0 ≤ Xi S 904 142 ∧ Xi S 904 142 ≤ 4 := hH.c _ _
  have w3796 : Xi U65 904 60 = Xi S 904 60 := (show Xi U65 904 60 = Xi U64 904 60 from by rw [eU65]; exact Xi_ne (by omega)).trans ( (show Xi U64 904 60 = Xi U63 904 60 from by rw [eU64]; exact Xi_ne (by omega)).trans ( (show Xi U63 904 60 = Xi U62 904 60 from by rw [eU63]; exact Xi_ne (by omega)).trans ((show Xi U62 904 60 = Xi S 904 60 from by rw [eU62]; exact Xi_ne (by omega)))))
  have w3797 : -1 ≤ Xi S 904 60 ∧ Xi S 904 60 ≤ 23 := hH.c _ _
  have w3798 : Xi U65 904 69 = Xi S 904 69 := (show Xi U65 904 69 = Xi U64 904 69 from by rw [eU65]; exact Xi_ne (by omega)).trans ( (show Xi U64 904 69 = Xi U63 904 69 from by rw [eU64]; exact Xi_ne (by omega)).trans ( (show Xi U63 904 69 = Xi U62 904 69 from by rw [eU63]; exact Xi_ne (by omega)).trans ((show Xi U62 904 69 = Xi S 904 69 from by rw [eU62]; exact Xi_ne (by omega)))))
  have w3799 : 0 ≤ Xi S 904 69 ∧ Xi S 904 69 ≤ 2600 := hH.c _ _
  have w3800 : Xi U65 904 70 = Xi S 904 70 := (show Xi U65 904 70 = Xi U64 904 70 from by rw [eU65]; exact Xi_ne (by omega)).trans ( (show Xi U64 904 70 = Xi U63 904 70 from by rw [eU64]; exact Xi_ne (by omega)).trans ( (show Xi U63 904 70 = Xi U62 904 70 from by rw [eU63]; exact Xi_ne (by omega)).trans ((show Xi U62 904 70 = Xi S 904 70 from by rw [eU62]; exact Xi_ne (by omega)))))
  have w3801 : 0 ≤ Xi S 904 70 ∧ Xi S 904 70 ≤ 20 := hH.c _ _
  have w3802 : Xi U65 904 71 = Xi S 904 71 := (show Xi U65 904 71 = Xi U64 904 71 from by rw [eU65]; exact Xi_ne (by omega)).trans ( (show Xi U64 904 71 = Xi U63 904 71 from by rw [eU64]; exact Xi_ne (by omega)).trans ( (show Xi U63 904 71 = Xi U62 904 71 from by rw [eU63]; exact Xi_ne (by omega)).trans ((show Xi U62 904 71 = Xi S 904 71 from by rw [eU62]; exact Xi_ne (by omega)))))
  have w3803 : 0 ≤ Xi S 904 71 ∧ Xi S 904 71 ≤ 2600 := hH.c _ _
  have w3804 : Xi U65 904 72 = Xi S 904 72 := (show Xi U65 904 72 = Xi U64 904 72 from by rw [eU65]; exact Xi_ne (by omega)).trans ( (show Xi U64 904 72 = Xi U63 904 72 from by rw [eU64]; exact Xi_ne (by omega)).trans ( (show Xi U63 904 72 = Xi U62 904 72 from by rw [eU63]; exact Xi_ne (by omega)).trans ((show Xi U62 904 72 = Xi S 904 72 from by rw [eU62]; exact Xi_ne (by omega)))))
  have w3805 : 0 ≤ Xi S 904 72 ∧ Xi S 904 72 ≤ 2600 := hH.c _ _
  have w3806 : Xi U65 904 73 = Xi S 904 73 := (show Xi U65 904 73 = Xi U64 904 73 from by rw [eU65]; exact Xi_ne (by omega)).trans ( (show Xi U64 904 73 = Xi U63 904 73 from by rw [eU64]; exact Xi_ne (by omega)).trans ( (show Xi U63 904 73 = Xi U62 904 73 from by rw [eU63]; exact Xi_ne (by omega)).trans ((show Xi U62 904 73 = Xi S 904 73 from by rw [eU62]; exact Xi_ne (by omega)))))
  have w3807 : 0 ≤ Xi S 904 73 ∧ Xi S 904 73 ≤ 5 := hH.c _ _
  have w3808 : Xi U65 904 74 = Xi S 904 74 := (show Xi U65 904 74 = Xi U64 904 74 from by rw [eU65]; exact Xi_ne (by omega)).trans ( (show Xi U64 904 74 = Xi U63 904 74 from by rw [eU64]; exact Xi_ne (by omega)).trans ( (show Xi U63 904 74 = Xi U62 904 74 from by rw [eU63]; exact Xi_ne (by omega)).trans ((show Xi U62 904 74 = Xi S 904 74 from by rw [eU62]; exact Xi_ne (by omega)))))
  have w3809 : 0 ≤ Xi S 904 74 ∧ Xi S 904 74 ≤ 2600 := hH.c _ _
  have w3810 : Xi U65 904 78 = Xi S 904 78 := (show Xi U65 904 78 = Xi U64 904 78 from by rw [eU65]; exact Xi_ne (by omega)).trans ( (show Xi U64 904 78 = Xi U63 904 78 from by rw [eU64]; exact Xi_ne (by omega)).trans ( (show Xi U63 904 78 = Xi U62 904 78 from by rw [eU63]; exact Xi_ne (by omega)).trans ((show Xi U62 904 78 = Xi S 904 78 from by rw [eU62]; exact Xi_ne (by omega)))))
  have w3811 : -2 ≤ Xi S 904 78 ∧ Xi S 904 78 ≤ 5010 := hH.c _ _
  have w3812 : Xi U65 904 81 = Xi S 904 81 := (show Xi U65 904 81 = Xi U64 904 81 from by rw [eU65]; exact Xi_ne (by omega)).trans ( (show Xi U64 904 81 = Xi U63 904 81 from by rw [eU64]; exact Xi_ne (by omega)).trans ( (show Xi U63 904 81 = Xi U62 904 81 from by rw [eU63]; exact Xi_ne (by omega)).trans ((show Xi U62 904 81 = Xi S 904 81 from by rw [eU62]; exact Xi_ne (by omega)))))
  have w3813 : 0 ≤ Xi S 904 81 ∧ Xi S 904 81 ≤ 5010 := hH.c _ _
  have w3814 : Xi U65 904 94 = Xi S 904 94 := (show Xi U65 904 94 = Xi U64 904 94 from by rw [eU65]; exact Xi_ne (by omega)).trans ( (show Xi U64 904 94 = Xi U63 904 94 from by rw [eU64]; exact Xi_ne (by omega)).trans ( (show Xi U63 904 94 = Xi U62 904 94 from by rw [eU63]; exact Xi_ne (by omega)).trans ((show Xi U62 904 94 = Xi S 904 94 from by rw [eU62]; exact Xi_ne (by omega)))))
  have w3815 : 0 ≤ Xi S 904 94 ∧ Xi S 904 94 ≤ 1700 := hH.c _ _
  have w3816 : Xi U65 904 98 = Xi S 904 98 := (show Xi U65 904 98 = Xi U64 904 98 from by rw [eU65]; exact Xi_ne (by omega)).trans ( (show Xi U64 904 98 = Xi U63 904 98 from by rw [eU64]; exact Xi_ne (by omega)).trans ( (show Xi U63 904 98 = Xi U62 904 98 from by rw [eU63]; exact Xi_ne (by omega)).trans ((show Xi U62 904 98 = Xi S 904 98 from by rw [eU62]; exact Xi_ne (by omega)))))
  have w3817 : 0 ≤ Xi S 904 98 ∧ Xi S 904 98 ≤ 1700 := hH.c _ _
  exact Rl_weak (C20 U65 hHU65 hFU65  (by omega) (by omega) (by omega) (by omega) (by omega) (by omega) (by omega) (by omega) (by omega) (by omega) (by omega) (by omega) (by omega) (by omega) (by omega) (by omega) (by first | assumption | exact (SNQ_FR hFU65 rfl (by assumption : SNQ S _))) (by first | assumption | exact (RDT_FR hHU64 (FR_e eU65) rfl rfl rfl (RDT_FR hHU63 (FR_e eU64) rfl rfl rfl (RDT_FR hHU62 (FR_e eU63) rfl rfl rfl (RDT_FR hH (FR_e eU62) rfl rfl rfl (by assumption : RDT S)))))) ((KQL_FR (FR_e eU65) rfl (KQL_FR (FR_e eU64) rfl (KQL_FR (FR_e eU63) rfl (KQL_FR (FR_e eU62) rfl (by assumption : KQL S _ _))))))) (And.intro rfl (And.intro rfl (True.intro)))

