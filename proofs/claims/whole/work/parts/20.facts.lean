/-! facts of methods: printed by wip/gen/tabs.py -/
theorem pv_1 {q : MethodName × Nat} (h : q ∈ lw_privs_1) : q ∈ lw_privs := List.mem_append_left _ h
theorem pv_2 {q : MethodName × Nat} (h : q ∈ lw_privs_2) : q ∈ lw_privs := List.mem_append_right _ (List.mem_append_left _ h)
theorem pv_3 {q : MethodName × Nat} (h : q ∈ lw_privs_3) : q ∈ lw_privs := List.mem_append_right _ (List.mem_append_right _ (List.mem_append_left _ h))
theorem pv_4 {q : MethodName × Nat} (h : q ∈ lw_privs_4) : q ∈ lw_privs := List.mem_append_right _ (List.mem_append_right _ (List.mem_append_right _ (List.mem_append_left _ h)))
theorem pv_5 {q : MethodName × Nat} (h : q ∈ lw_privs_5) : q ∈ lw_privs := List.mem_append_right _ (List.mem_append_right _ (List.mem_append_right _ (List.mem_append_right _ (List.mem_append_left _ h))))
theorem pv_6 {q : MethodName × Nat} (h : q ∈ lw_privs_6) : q ∈ lw_privs := List.mem_append_right _ (List.mem_append_right _ (List.mem_append_right _ (List.mem_append_right _ (List.mem_append_right _ (List.mem_append_left _ h)))))
theorem pv_7 {q : MethodName × Nat} (h : q ∈ lw_privs_7) : q ∈ lw_privs := List.mem_append_right _ (List.mem_append_right _ (List.mem_append_right _ (List.mem_append_right _ (List.mem_append_right _ (List.mem_append_right _ (List.mem_append_left _ h))))))
theorem pv_8 {q : MethodName × Nat} (h : q ∈ lw_privs_8) : q ∈ lw_privs := List.mem_append_right _ (List.mem_append_right _ (List.mem_append_right _ (List.mem_append_right _ (List.mem_append_right _ (List.mem_append_right _ (List.mem_append_right _ (List.mem_append_left _ h)))))))
theorem pv_9 {q : MethodName × Nat} (h : q ∈ lw_privs_9) : q ∈ lw_privs := List.mem_append_right _ (List.mem_append_right _ (List.mem_append_right _ (List.mem_append_right _ (List.mem_append_right _ (List.mem_append_right _ (List.mem_append_right _ (List.mem_append_right _ (List.mem_append_left _ h))))))))
theorem pv_10 {q : MethodName × Nat} (h : q ∈ lw_privs_10) : q ∈ lw_privs := List.mem_append_right _ (List.mem_append_right _ (List.mem_append_right _ (List.mem_append_right _ (List.mem_append_right _ (List.mem_append_right _ (List.mem_append_right _ (List.mem_append_right _ (List.mem_append_right _ (List.mem_append_left _ h)))))))))
theorem pv_11 {q : MethodName × Nat} (h : q ∈ lw_privs_11) : q ∈ lw_privs := List.mem_append_right _ (List.mem_append_right _ (List.mem_append_right _ (List.mem_append_right _ (List.mem_append_right _ (List.mem_append_right _ (List.mem_append_right _ (List.mem_append_right _ (List.mem_append_right _ (List.mem_append_right _ (List.mem_append_left _ h))))))))))
theorem pv_12 {q : MethodName × Nat} (h : q ∈ lw_privs_12) : q ∈ lw_privs := List.mem_append_right _ (List.mem_append_right _ (List.mem_append_right _ (List.mem_append_right _ (List.mem_append_right _ (List.mem_append_right _ (List.mem_append_right _ (List.mem_append_right _ (List.mem_append_right _ (List.mem_append_right _ (List.mem_append_right _ (List.mem_append_left _ h)))))))))))
theorem pv_13 {q : MethodName × Nat} (h : q ∈ lw_privs_13) : q ∈ lw_privs := List.mem_append_right _ (List.mem_append_right _ (List.mem_append_right _ (List.mem_append_right _ (List.mem_append_right _ (List.mem_append_right _ (List.mem_append_right _ (List.mem_append_right _ (List.mem_append_right _ (List.mem_append_right _ (List.mem_append_right _ (List.mem_append_right _ (List.mem_append_left _ h))))))))))))
theorem pv_14 {q : MethodName × Nat} (h : q ∈ lw_privs_14) : q ∈ lw_privs := List.mem_append_right _ (List.mem_append_right _ (List.mem_append_right _ (List.mem_append_right _ (List.mem_append_right _ (List.mem_append_right _ (List.mem_append_right _ (List.mem_append_right _ (List.mem_append_right _ (List.mem_append_right _ (List.mem_append_right _ (List.mem_append_right _ (List.mem_append_right _ (List.mem_append_left _ h)))))))))))))
theorem pv_15 {q : MethodName × Nat} (h : q ∈ lw_privs_15) : q ∈ lw_privs := List.mem_append_right _ (List.mem_append_right _ (List.mem_append_right _ (List.mem_append_right _ (List.mem_append_right _ (List.mem_append_right _ (List.mem_append_right _ (List.mem_append_right _ (List.mem_append_right _ (List.mem_append_right _ (List.mem_append_right _ (List.mem_append_right _ (List.mem_append_right _ (List.mem_append_right _ (List.mem_append_left _ h))))))))))))))
theorem pv_16 {q : MethodName × Nat} (h : q ∈ lw_privs_16) : q ∈ lw_privs := List.mem_append_right _ (List.mem_append_right _ (List.mem_append_right _ (List.mem_append_right _ (List.mem_append_right _ (List.mem_append_right _ (List.mem_append_right _ (List.mem_append_right _ (List.mem_append_right _ (List.mem_append_right _ (List.mem_append_right _ (List.mem_append_right _ (List.mem_append_right _ (List.mem_append_right _ (List.mem_append_right _ (List.mem_append_left _ h)))))))))))))))
theorem pv_17 {q : MethodName × Nat} (h : q ∈ lw_privs_17) : q ∈ lw_privs := List.mem_append_right _ (List.mem_append_right _ (List.mem_append_right _ (List.mem_append_right _ (List.mem_append_right _ (List.mem_append_right _ (List.mem_append_right _ (List.mem_append_right _ (List.mem_append_right _ (List.mem_append_right _ (List.mem_append_right _ (List.mem_append_right _ (List.mem_append_right _ (List.mem_append_right _ (List.mem_append_right _ (List.mem_append_right _ (h))))))))))))))))
theorem in_rs : Cond.initialized R_rs ∈ lw_good := ga_1 1 rfl rfl
set_option maxRecDepth 100000 in
theorem i_rs : ∀ w ∈ u_ws R_rs F_rs 12, w ∈ lw_good := good_ps [774, 776, 778, 780, 782, 784, 786, 788, 790, 792, 794, 796] (by decide +kernel) (by decide +kernel)
theorem in_vo : Cond.initialized R_vo ∈ lw_good := ga_1 2 rfl rfl
set_option maxRecDepth 100000 in
theorem i_vo : ∀ w ∈ u_ws R_vo F_vo 19, w ∈ lw_good := good_ps [93, 95, 97, 99, 101, 103, 105, 107, 109, 111, 113, 115, 117, 119, 121, 123, 125, 127, 129] (by decide +kernel) (by decide +kernel)
theorem in_wo : Cond.initialized R_wo ∈ lw_good := ga_1 3 rfl rfl
set_option maxRecDepth 100000 in
theorem i_wo : ∀ w ∈ u_ws R_wo F_wo 13, w ∈ lw_good := good_ps [170, 172, 174, 176, 178, 180, 182, 184, 186, 188, 190, 192, 194] (by decide +kernel) (by decide +kernel)
theorem in_bo : Cond.initialized R_bo ∈ lw_good := ga_1 4 rfl rfl
set_option maxRecDepth 100000 in
theorem i_bo : ∀ w ∈ u_ws R_bo F_bo 9, w ∈ lw_good := good_ps [267, 269, 271, 273, 275, 277, 279, 281, 283] (by decide +kernel) (by decide +kernel)
theorem in_cl : Cond.initialized R_cl ∈ lw_good := ga_1 5 rfl rfl
set_option maxRecDepth 100000 in
theorem i_cl : ∀ w ∈ u_ws R_cl F_cl 7, w ∈ lw_good := good_ps [233, 235, 237, 239, 241, 243, 245] (by decide +kernel) (by decide +kernel)
theorem in_to : Cond.initialized R_to ∈ lw_good := ga_1 6 rfl rfl
set_option maxRecDepth 100000 in
theorem i_to : ∀ w ∈ u_ws R_to F_to 10, w ∈ lw_good := good_ps [361, 363, 365, 367, 369, 371, 373, 375, 377, 379] (by decide +kernel) (by decide +kernel)
theorem in_co : Cond.initialized R_co ∈ lw_good := ga_1 11 rfl rfl
set_option maxRecDepth 100000 in
theorem i_co : ∀ w ∈ u_ws R_co F_co 14, w ∈ lw_good := good_ps [406, 408, 410, 412, 414, 416, 418, 420, 422, 424, 426, 428, 430, 432] (by decide +kernel) (by decide +kernel)
theorem in_gr : Cond.initialized R_gr ∈ lw_good := ga_1 12 rfl rfl
set_option maxRecDepth 100000 in
theorem i_gr : ∀ w ∈ u_ws R_gr F_gr 4, w ∈ lw_good := good_ps [449, 451, 453, 455] (by decide +kernel) (by decide +kernel)
theorem in_re : Cond.initialized R_re ∈ lw_good := ga_1 13 rfl rfl
set_option maxRecDepth 100000 in
theorem i_re : ∀ w ∈ u_ws R_re F_re 14, w ∈ lw_good := good_ps [592, 594, 596, 598, 600, 602, 604, 606, 608, 610, 612, 614, 616, 618] (by decide +kernel) (by decide +kernel)
theorem in_me : Cond.initialized R_me ∈ lw_good := ga_1 14 rfl rfl
set_option maxRecDepth 100000 in
theorem i_me : ∀ w ∈ u_ws R_me F_me 18, w ∈ lw_good := good_ps [513, 515, 517, 519, 521, 523, 525, 527, 529, 531, 533, 535, 537, 539, 541, 543, 545, 547] (by decide +kernel) (by decide +kernel)
theorem in_rr : Cond.initialized R_rr ∈ lw_good := ga_1 15 rfl rfl
set_option maxRecDepth 100000 in
theorem i_rr : ∀ w ∈ u_ws R_rr F_rr 7, w ∈ lw_good := good_ps [563, 565, 567, 569, 571, 573, 575] (by decide +kernel) (by decide +kernel)
theorem in_tu : Cond.initialized R_tu ∈ lw_good := ga_1 16 rfl rfl
set_option maxRecDepth 100000 in
theorem i_tu : ∀ w ∈ u_ws R_tu F_tu 9, w ∈ lw_good := good_ps [639, 641, 643, 645, 647, 649, 651, 653, 655] (by decide +kernel) (by decide +kernel)
theorem in_mo : Cond.initialized R_mo ∈ lw_good := ga_1 17 rfl rfl
set_option maxRecDepth 100000 in
theorem i_mo : ∀ w ∈ u_ws R_mo F_mo 166, w ∈ lw_good := good_ps [1999, 2001, 2003, 2005, 2007, 2009, 2011, 2013, 2015, 2017, 2019, 2021, 2023, 2025, 2027, 2029, 2031, 2033, 2035, 2037, 2039, 2041, 2043, 2045, 2047, 2049, 2051, 2053, 2055, 2057, 2059, 2061, 2063, 2065, 2067, 2069, 2071, 2073, 2075, 2077, 2079, 2081, 2083, 2085, 2087, 2089, 2091, 2093, 2095, 2097, 2099, 2101, 2103, 2105, 2107, 2109, 2111, 2113, 2115, 2117, 2119, 2121, 2123, 2125, 2127, 2129, 2131, 2133, 2135, 2137, 2139, 2141, 2143, 2145, 2147, 2149, 2151, 2153, 2155, 2157, 2159, 2161, 2163, 2165, 2167, 2169, 2171, 2173, 2175, 2177, 2179, 2181, 2183, 2185, 2187, 2189, 2191, 2193, 2195, 2197, 2199, 2201, 2203, 2205, 2207, 2209, 2211, 2213, 2215, 2217, 2219, 2221, 2223, 2225, 2227, 2229, 2231, 2233, 2235, 2237, 2239, 2241, 2243, 2245, 2247, 2249, 2251, 2253, 2255, 2257, 2259, 2261, 2263, 2265, 2267, 2269, 2271, 2273, 2275, 2277, 2279, 2281, 2283, 2285, 2287, 2289, 2291, 2293, 2295, 2297, 2299, 2301, 2303, 2305, 2307, 2309, 2311, 2313, 2315, 2317, 2319, 2321, 2323, 2325, 2327, 2329] (by decide +kernel) (by decide +kernel)
theorem in_ji : Cond.initialized "java/lang/Integer" ∈ lw_good := ga_1 20 rfl rfl
theorem in_jm : Cond.initialized "java/lang/Math" ∈ lw_good := ga_1 19 rfl rfl
theorem in_js : Cond.initialized "java/lang/String" ∈ lw_good := ga_1 7 rfl rfl
theorem in_jl : Cond.initialized "java/lang/StringLatin1" ∈ lw_good := ga_1 8 rfl rfl
theorem cd_rs_letterOf : Cond.code y_rs_letterOf b_rs_letterOf 2 (some .int) ∈ lw_good := ga_2 104 rfl rfl
theorem st_rs_letterOf : Cond.static y_rs_letterOf ∈ lw_good := ga_2 103 rfl rfl
theorem cd_me_startSelf : Cond.code y_me_startSelf b_me_startSelf 3 none ∈ lw_good := ga_2 233 rfl rfl
theorem im_me_startSelf : Cond.instanceMethod y_me_startSelf ∈ lw_good := ga_2 231 rfl rfl
theorem se_me_startSelf : Cond.selects R_me y_me_startSelf y_me_startSelf ∈ lw_good := ga_2 232 rfl rfl
theorem cd_rs_startAgain : Cond.code y_rs_startAgain b_rs_startAgain 1 none ∈ lw_good := ga_3 181 rfl rfl
theorem im_rs_startAgain : Cond.instanceMethod y_rs_startAgain ∈ lw_good := ga_3 180 rfl rfl
theorem se_rs_startAgain : Cond.selects R_rs y_rs_startAgain y_rs_startAgain ∈ lw_good := good_sel (q := (y_rs_startAgain, 12)) (pv_1 (List.mem_of_getElem? (i := 0) rfl)) rfl
theorem cd_vo_startAgain : Cond.code y_vo_startAgain b_vo_startAgain 2 none ∈ lw_good := ga_3 185 rfl rfl
theorem im_vo_startAgain : Cond.instanceMethod y_vo_startAgain ∈ lw_good := ga_3 183 rfl rfl
theorem se_vo_startAgain : Cond.selects R_vo y_vo_startAgain y_vo_startAgain ∈ lw_good := ga_3 184 rfl rfl
theorem cd_vo_startKinds : Cond.code y_vo_startKinds b_vo_startKinds 1 none ∈ lw_good := ga_3 189 rfl rfl
theorem im_vo_startKinds : Cond.instanceMethod y_vo_startKinds ∈ lw_good := ga_3 188 rfl rfl
theorem se_vo_startKinds : Cond.selects R_vo y_vo_startKinds y_vo_startKinds ∈ lw_good := good_sel (q := (y_vo_startKinds, 19)) (pv_1 (List.mem_of_getElem? (i := 1) rfl)) rfl
theorem cd_vo_startKind : Cond.code y_vo_startKind b_vo_startKind 5 none ∈ lw_good := ga_3 195 rfl rfl
theorem im_vo_startKind : Cond.instanceMethod y_vo_startKind ∈ lw_good := ga_3 194 rfl rfl
theorem se_vo_startKind : Cond.selects R_vo y_vo_startKind y_vo_startKind ∈ lw_good := good_sel (q := (y_vo_startKind, 19)) (pv_1 (List.mem_of_getElem? (i := 2) rfl)) rfl
theorem cd_vo_addFirst : Cond.code y_vo_addFirst b_vo_addFirst 4 (some .int) ∈ lw_good := ga_3 199 rfl rfl
theorem im_vo_addFirst : Cond.instanceMethod y_vo_addFirst ∈ lw_good := ga_3 197 rfl rfl
theorem se_vo_addFirst : Cond.selects R_vo y_vo_addFirst y_vo_addFirst ∈ lw_good := ga_3 198 rfl rfl
theorem cd_vo_codeOf : Cond.code y_vo_codeOf b_vo_codeOf 4 (some .long) ∈ lw_good := ga_3 202 rfl rfl
theorem st_vo_codeOf : Cond.static y_vo_codeOf ∈ lw_good := ga_3 201 rfl rfl
theorem cd_vo_addEntry : Cond.code y_vo_addEntry b_vo_addEntry 5 none ∈ lw_good := ga_3 210 rfl rfl
theorem im_vo_addEntry : Cond.instanceMethod y_vo_addEntry ∈ lw_good := ga_3 209 rfl rfl
theorem se_vo_addEntry : Cond.selects R_vo y_vo_addEntry y_vo_addEntry ∈ lw_good := good_sel (q := (y_vo_addEntry, 19)) (pv_1 (List.mem_of_getElem? (i := 3) rfl)) rfl
theorem cd_vo_makeContrary : Cond.code y_vo_makeContrary b_vo_makeContrary 3 none ∈ lw_good := ga_3 227 rfl rfl
theorem im_vo_makeContrary : Cond.instanceMethod y_vo_makeContrary ∈ lw_good := ga_3 225 rfl rfl
theorem se_vo_makeContrary : Cond.selects R_vo y_vo_makeContrary y_vo_makeContrary ∈ lw_good := ga_3 226 rfl rfl
theorem cd_vo_addDirection : Cond.code y_vo_addDirection b_vo_addDirection 3 none ∈ lw_good := ga_3 237 rfl rfl
theorem im_vo_addDirection : Cond.instanceMethod y_vo_addDirection ∈ lw_good := ga_3 236 rfl rfl
theorem se_vo_addDirection : Cond.selects R_vo y_vo_addDirection y_vo_addDirection ∈ lw_good := good_sel (q := (y_vo_addDirection, 19)) (pv_1 (List.mem_of_getElem? (i := 4) rfl)) rfl
theorem cd_wo_startAgain : Cond.code y_wo_startAgain b_wo_startAgain 3 none ∈ lw_good := ga_4 6 rfl rfl
theorem im_wo_startAgain : Cond.instanceMethod y_wo_startAgain ∈ lw_good := ga_4 4 rfl rfl
theorem se_wo_startAgain : Cond.selects R_wo y_wo_startAgain y_wo_startAgain ∈ lw_good := ga_4 5 rfl rfl
theorem cd_wo_makeObject : Cond.code y_wo_makeObject b_wo_makeObject 3 none ∈ lw_good := ga_4 12 rfl rfl
theorem im_wo_makeObject : Cond.instanceMethod y_wo_makeObject ∈ lw_good := ga_4 10 rfl rfl
theorem se_wo_makeObject : Cond.selects R_wo y_wo_makeObject y_wo_makeObject ∈ lw_good := ga_4 11 rfl rfl
theorem cd_bo_startAgain : Cond.code y_bo_startAgain b_bo_startAgain 1 none ∈ lw_good := ga_4 16 rfl rfl
theorem im_bo_startAgain : Cond.instanceMethod y_bo_startAgain ∈ lw_good := ga_4 14 rfl rfl
theorem se_bo_startAgain : Cond.selects R_bo y_bo_startAgain y_bo_startAgain ∈ lw_good := ga_4 15 rfl rfl
theorem cd_co_startAgain : Cond.code y_co_startAgain b_co_startAgain 1 none ∈ lw_good := ga_4 20 rfl rfl
theorem im_co_startAgain : Cond.instanceMethod y_co_startAgain ∈ lw_good := ga_4 18 rfl rfl
theorem se_co_startAgain : Cond.selects R_co y_co_startAgain y_co_startAgain ∈ lw_good := ga_4 19 rfl rfl
theorem cd_co_addFirst : Cond.code y_co_addFirst b_co_addFirst 5 none ∈ lw_good := ga_4 25 rfl rfl
theorem im_co_addFirst : Cond.instanceMethod y_co_addFirst ∈ lw_good := ga_4 24 rfl rfl
theorem se_co_addFirst : Cond.selects R_co y_co_addFirst y_co_addFirst ∈ lw_good := good_sel (q := (y_co_addFirst, 14)) (pv_1 (List.mem_of_getElem? (i := 5) rfl)) rfl
theorem cd_co_addAs : Cond.code y_co_addAs b_co_addAs 2 none ∈ lw_good := ga_4 31 rfl rfl
theorem im_co_addAs : Cond.instanceMethod y_co_addAs ∈ lw_good := ga_4 29 rfl rfl
theorem se_co_addAs : Cond.selects R_co y_co_addAs y_co_addAs ∈ lw_good := ga_4 30 rfl rfl
theorem cd_re_startAgain : Cond.code y_re_startAgain b_re_startAgain 1 none ∈ lw_good := ga_4 41 rfl rfl
theorem im_re_startAgain : Cond.instanceMethod y_re_startAgain ∈ lw_good := ga_4 39 rfl rfl
theorem se_re_startAgain : Cond.selects R_re y_re_startAgain y_re_startAgain ∈ lw_good := ga_4 40 rfl rfl
theorem cd_rs_feed : Cond.code y_rs_feed b_rs_feed 5 (some .int) ∈ lw_good := ga_4 82 rfl rfl
theorem im_rs_feed : Cond.instanceMethod y_rs_feed ∈ lw_good := ga_4 80 rfl rfl
theorem se_rs_feed : Cond.selects R_rs y_rs_feed y_rs_feed ∈ lw_good := ga_4 81 rfl rfl
theorem cd_rs_wipe : Cond.code y_rs_wipe b_rs_wipe 2 (some .int) ∈ lw_good := ga_4 86 rfl rfl
theorem im_rs_wipe : Cond.instanceMethod y_rs_wipe ∈ lw_good := ga_4 84 rfl rfl
theorem se_rs_wipe : Cond.selects R_rs y_rs_wipe y_rs_wipe ∈ lw_good := ga_4 85 rfl rfl
theorem cd_rs_read : Cond.code y_rs_read b_rs_read 5 (some .int) ∈ lw_good := ga_4 90 rfl rfl
theorem im_rs_read : Cond.instanceMethod y_rs_read ∈ lw_good := ga_4 88 rfl rfl
theorem se_rs_read : Cond.selects R_rs y_rs_read y_rs_read ∈ lw_good := ga_4 89 rfl rfl
theorem cd_tu_empty : Cond.code y_tu_empty b_tu_empty 1 none ∈ lw_good := ga_4 95 rfl rfl
theorem im_tu_empty : Cond.instanceMethod y_tu_empty ∈ lw_good := ga_4 93 rfl rfl
theorem se_tu_empty : Cond.selects R_tu y_tu_empty y_tu_empty ∈ lw_good := ga_4 94 rfl rfl
theorem cd_to_open : Cond.code y_to_open b_to_open 3 none ∈ lw_good := ga_4 99 rfl rfl
theorem im_to_open : Cond.instanceMethod y_to_open ∈ lw_good := ga_4 97 rfl rfl
theorem se_to_open : Cond.selects R_to y_to_open y_to_open ∈ lw_good := ga_4 98 rfl rfl
theorem cd_to_skip : Cond.code y_to_skip b_to_skip 5 (some .int) ∈ lw_good := ga_4 103 rfl rfl
theorem im_to_skip : Cond.instanceMethod y_to_skip ∈ lw_good := ga_4 101 rfl rfl
theorem se_to_skip : Cond.selects R_to y_to_skip y_to_skip ∈ lw_good := ga_4 102 rfl rfl
theorem cd_to_closing : Cond.code y_to_closing b_to_closing 3 (some .int) ∈ lw_good := ga_4 107 rfl rfl
theorem im_to_closing : Cond.instanceMethod y_to_closing ∈ lw_good := ga_4 106 rfl rfl
theorem se_to_closing : Cond.selects R_to y_to_closing y_to_closing ∈ lw_good := good_sel (q := (y_to_closing, 10)) (pv_1 (List.mem_of_getElem? (i := 6) rfl)) rfl
theorem cd_to_takeSentence : Cond.code y_to_takeSentence b_to_takeSentence 6 (some .int) ∈ lw_good := ga_4 111 rfl rfl
theorem im_to_takeSentence : Cond.instanceMethod y_to_takeSentence ∈ lw_good := ga_4 109 rfl rfl
theorem se_to_takeSentence : Cond.selects R_to y_to_takeSentence y_to_takeSentence ∈ lw_good := ga_4 110 rfl rfl
theorem cd_to_scan : Cond.code y_to_scan b_to_scan 3 (some .int) ∈ lw_good := ga_4 115 rfl rfl
theorem im_to_scan : Cond.instanceMethod y_to_scan ∈ lw_good := ga_4 114 rfl rfl
theorem se_to_scan : Cond.selects R_to y_to_scan y_to_scan ∈ lw_good := good_sel (q := (y_to_scan, 10)) (pv_1 (List.mem_of_getElem? (i := 7) rfl)) rfl
theorem cd_to_scanWord : Cond.code y_to_scanWord b_to_scanWord 6 (some .int) ∈ lw_good := ga_4 119 rfl rfl
theorem im_to_scanWord : Cond.instanceMethod y_to_scanWord ∈ lw_good := ga_4 118 rfl rfl
theorem se_to_scanWord : Cond.selects R_to y_to_scanWord y_to_scanWord ∈ lw_good := good_sel (q := (y_to_scanWord, 10)) (pv_1 (List.mem_of_getElem? (i := 8) rfl)) rfl
theorem cd_to_keyOf : Cond.code y_to_keyOf b_to_keyOf 4 (some .int) ∈ lw_good := ga_4 123 rfl rfl
theorem im_to_keyOf : Cond.instanceMethod y_to_keyOf ∈ lw_good := ga_4 121 rfl rfl
theorem se_to_keyOf : Cond.selects R_to y_to_keyOf y_to_keyOf ∈ lw_good := ga_4 122 rfl rfl
theorem cd_to_note : Cond.code y_to_note b_to_note 5 none ∈ lw_good := ga_4 127 rfl rfl
theorem im_to_note : Cond.instanceMethod y_to_note ∈ lw_good := ga_4 126 rfl rfl
theorem se_to_note : Cond.selects R_to y_to_note y_to_note ∈ lw_good := good_sel (q := (y_to_note, 10)) (pv_1 (List.mem_of_getElem? (i := 9) rfl)) rfl
theorem cd_to_scanNumber : Cond.code y_to_scanNumber b_to_scanNumber 4 (some .int) ∈ lw_good := ga_4 131 rfl rfl
theorem im_to_scanNumber : Cond.instanceMethod y_to_scanNumber ∈ lw_good := ga_4 130 rfl rfl
theorem se_to_scanNumber : Cond.selects R_to y_to_scanNumber y_to_scanNumber ∈ lw_good := good_sel (q := (y_to_scanNumber, 10)) (pv_1 (List.mem_of_getElem? (i := 10) rfl)) rfl
theorem cd_to_scanText : Cond.code y_to_scanText b_to_scanText 3 (some .int) ∈ lw_good := ga_4 135 rfl rfl
theorem im_to_scanText : Cond.instanceMethod y_to_scanText ∈ lw_good := ga_4 134 rfl rfl
theorem se_to_scanText : Cond.selects R_to y_to_scanText y_to_scanText ∈ lw_good := good_sel (q := (y_to_scanText, 10)) (pv_1 (List.mem_of_getElem? (i := 11) rfl)) rfl
theorem cd_to_takeDotBehindText : Cond.code y_to_takeDotBehindText b_to_takeDotBehindText 3 (some .int) ∈ lw_good := ga_4 140 rfl rfl
theorem im_to_takeDotBehindText : Cond.instanceMethod y_to_takeDotBehindText ∈ lw_good := ga_4 139 rfl rfl
theorem se_to_takeDotBehindText : Cond.selects R_to y_to_takeDotBehindText y_to_takeDotBehindText ∈ lw_good := good_sel (q := (y_to_takeDotBehindText, 10)) (pv_1 (List.mem_of_getElem? (i := 12) rfl)) rfl
theorem cd_to_endsBadly : Cond.code y_to_endsBadly b_to_endsBadly 1 (some .boolean) ∈ lw_good := ga_4 144 rfl rfl
theorem im_to_endsBadly : Cond.instanceMethod y_to_endsBadly ∈ lw_good := ga_4 142 rfl rfl
theorem se_to_endsBadly : Cond.selects R_to y_to_endsBadly y_to_endsBadly ∈ lw_good := ga_4 143 rfl rfl
theorem cd_to_typeAt : Cond.code y_to_typeAt b_to_typeAt 2 (some .int) ∈ lw_good := ga_4 148 rfl rfl
theorem im_to_typeAt : Cond.instanceMethod y_to_typeAt ∈ lw_good := ga_4 146 rfl rfl
theorem se_to_typeAt : Cond.selects R_to y_to_typeAt y_to_typeAt ∈ lw_good := ga_4 147 rfl rfl
theorem cd_to_lastRow : Cond.code y_to_lastRow b_to_lastRow 1 (some .int) ∈ lw_good := ga_4 152 rfl rfl
theorem im_to_lastRow : Cond.instanceMethod y_to_lastRow ∈ lw_good := ga_4 150 rfl rfl
theorem se_to_lastRow : Cond.selects R_to y_to_lastRow y_to_lastRow ∈ lw_good := ga_4 151 rfl rfl
theorem cd_to_wrong : Cond.code y_to_wrong b_to_wrong 3 (some .boolean) ∈ lw_good := ga_4 156 rfl rfl
theorem im_to_wrong : Cond.instanceMethod y_to_wrong ∈ lw_good := ga_4 154 rfl rfl
theorem se_to_wrong : Cond.selects R_to y_to_wrong y_to_wrong ∈ lw_good := ga_4 155 rfl rfl
theorem cd_gr_check : Cond.code y_gr_check b_gr_check 2 (some .boolean) ∈ lw_good := ga_4 160 rfl rfl
theorem im_gr_check : Cond.instanceMethod y_gr_check ∈ lw_good := ga_4 158 rfl rfl
theorem se_gr_check : Cond.selects R_gr y_gr_check y_gr_check ∈ lw_good := ga_4 159 rfl rfl
theorem cd_gr_take : Cond.code y_gr_take b_gr_take 2 (some .boolean) ∈ lw_good := ga_4 165 rfl rfl
theorem im_gr_take : Cond.instanceMethod y_gr_take ∈ lw_good := ga_4 164 rfl rfl
theorem se_gr_take : Cond.selects R_gr y_gr_take y_gr_take ∈ lw_good := good_sel (q := (y_gr_take, 4)) (pv_1 (List.mem_of_getElem? (i := 13) rfl)) rfl
theorem cd_gr_takeRun : Cond.code y_gr_takeRun b_gr_takeRun 2 (some .boolean) ∈ lw_good := ga_4 169 rfl rfl
theorem im_gr_takeRun : Cond.instanceMethod y_gr_takeRun ∈ lw_good := ga_4 168 rfl rfl
theorem se_gr_takeRun : Cond.selects R_gr y_gr_takeRun y_gr_takeRun ∈ lw_good := good_sel (q := (y_gr_takeRun, 4)) (pv_1 (List.mem_of_getElem? (i := 14) rfl)) rfl
theorem cd_to_runEndUpTo : Cond.code y_to_runEndUpTo b_to_runEndUpTo 4 (some .int) ∈ lw_good := ga_4 173 rfl rfl
theorem im_to_runEndUpTo : Cond.instanceMethod y_to_runEndUpTo ∈ lw_good := ga_4 171 rfl rfl
theorem se_to_runEndUpTo : Cond.selects R_to y_to_runEndUpTo y_to_runEndUpTo ∈ lw_good := ga_4 172 rfl rfl
theorem cd_gr_takeArt : Cond.code y_gr_takeArt b_gr_takeArt 1 (some .boolean) ∈ lw_good := ga_4 177 rfl rfl
theorem im_gr_takeArt : Cond.instanceMethod y_gr_takeArt ∈ lw_good := ga_4 176 rfl rfl
theorem se_gr_takeArt : Cond.selects R_gr y_gr_takeArt y_gr_takeArt ∈ lw_good := good_sel (q := (y_gr_takeArt, 4)) (pv_1 (List.mem_of_getElem? (i := 15) rfl)) rfl
theorem cd_rs_isArt : Cond.code y_rs_isArt b_rs_isArt 1 (some .boolean) ∈ lw_good := ga_4 180 rfl rfl
theorem st_rs_isArt : Cond.static y_rs_isArt ∈ lw_good := ga_4 179 rfl rfl
theorem cd_gr_takeTests : Cond.code y_gr_takeTests b_gr_takeTests 3 (some .boolean) ∈ lw_good := ga_4 184 rfl rfl
theorem im_gr_takeTests : Cond.instanceMethod y_gr_takeTests ∈ lw_good := ga_4 183 rfl rfl
theorem se_gr_takeTests : Cond.selects R_gr y_gr_takeTests y_gr_takeTests ∈ lw_good := good_sel (q := (y_gr_takeTests, 4)) (pv_2 (List.mem_of_getElem? (i := 0) rfl)) rfl
theorem cd_gr_takeTest : Cond.code y_gr_takeTest b_gr_takeTest 2 (some .boolean) ∈ lw_good := ga_4 188 rfl rfl
theorem im_gr_takeTest : Cond.instanceMethod y_gr_takeTest ∈ lw_good := ga_4 187 rfl rfl
theorem se_gr_takeTest : Cond.selects R_gr y_gr_takeTest y_gr_takeTest ∈ lw_good := good_sel (q := (y_gr_takeTest, 4)) (pv_2 (List.mem_of_getElem? (i := 1) rfl)) rfl
theorem cd_to_testEnd : Cond.code y_to_testEnd b_to_testEnd 5 (some .int) ∈ lw_good := ga_4 192 rfl rfl
theorem im_to_testEnd : Cond.instanceMethod y_to_testEnd ∈ lw_good := ga_4 190 rfl rfl
theorem se_to_testEnd : Cond.selects R_to y_to_testEnd y_to_testEnd ∈ lw_good := ga_4 191 rfl rfl
theorem cd_to_firstOf : Cond.code y_to_firstOf b_to_firstOf 5 (some .int) ∈ lw_good := ga_4 196 rfl rfl
theorem im_to_firstOf : Cond.instanceMethod y_to_firstOf ∈ lw_good := ga_4 194 rfl rfl
theorem se_to_firstOf : Cond.selects R_to y_to_firstOf y_to_firstOf ∈ lw_good := ga_4 195 rfl rfl
theorem cd_gr_takeLoose : Cond.code y_gr_takeLoose b_gr_takeLoose 5 (some .boolean) ∈ lw_good := ga_4 200 rfl rfl
theorem im_gr_takeLoose : Cond.instanceMethod y_gr_takeLoose ∈ lw_good := ga_4 199 rfl rfl
theorem se_gr_takeLoose : Cond.selects R_gr y_gr_takeLoose y_gr_takeLoose ∈ lw_good := good_sel (q := (y_gr_takeLoose, 4)) (pv_2 (List.mem_of_getElem? (i := 2) rfl)) rfl
theorem cd_to_beginsProperty : Cond.code y_to_beginsProperty b_to_beginsProperty 2 (some .boolean) ∈ lw_good := ga_4 204 rfl rfl
theorem im_to_beginsProperty : Cond.instanceMethod y_to_beginsProperty ∈ lw_good := ga_4 202 rfl rfl
theorem se_to_beginsProperty : Cond.selects R_to y_to_beginsProperty y_to_beginsProperty ∈ lw_good := ga_4 203 rfl rfl
theorem cd_gr_takePropertyTest : Cond.code y_gr_takePropertyTest b_gr_takePropertyTest 2 (some .boolean) ∈ lw_good := ga_4 209 rfl rfl
theorem im_gr_takePropertyTest : Cond.instanceMethod y_gr_takePropertyTest ∈ lw_good := ga_4 208 rfl rfl
theorem se_gr_takePropertyTest : Cond.selects R_gr y_gr_takePropertyTest y_gr_takePropertyTest ∈ lw_good := good_sel (q := (y_gr_takePropertyTest, 4)) (pv_2 (List.mem_of_getElem? (i := 3) rfl)) rfl
theorem cd_to_runEnd : Cond.code y_to_runEnd b_to_runEnd 2 (some .int) ∈ lw_good := ga_4 213 rfl rfl
theorem im_to_runEnd : Cond.instanceMethod y_to_runEnd ∈ lw_good := ga_4 211 rfl rfl
theorem se_to_runEnd : Cond.selects R_to y_to_runEnd y_to_runEnd ∈ lw_good := ga_4 212 rfl rfl
theorem cd_gr_takeThing : Cond.code y_gr_takeThing b_gr_takeThing 2 (some .boolean) ∈ lw_good := ga_4 217 rfl rfl
theorem im_gr_takeThing : Cond.instanceMethod y_gr_takeThing ∈ lw_good := ga_4 216 rfl rfl
theorem se_gr_takeThing : Cond.selects R_gr y_gr_takeThing y_gr_takeThing ∈ lw_good := good_sel (q := (y_gr_takeThing, 4)) (pv_2 (List.mem_of_getElem? (i := 4) rfl)) rfl
theorem cd_to_behindArt : Cond.code y_to_behindArt b_to_behindArt 2 (some .int) ∈ lw_good := ga_4 221 rfl rfl
theorem im_to_behindArt : Cond.instanceMethod y_to_behindArt ∈ lw_good := ga_4 219 rfl rfl
theorem se_to_behindArt : Cond.selects R_to y_to_behindArt y_to_behindArt ∈ lw_good := ga_4 220 rfl rfl
theorem cd_gr_takeWhat : Cond.code y_gr_takeWhat b_gr_takeWhat 1 (some .boolean) ∈ lw_good := ga_4 226 rfl rfl
theorem im_gr_takeWhat : Cond.instanceMethod y_gr_takeWhat ∈ lw_good := ga_4 225 rfl rfl
theorem se_gr_takeWhat : Cond.selects R_gr y_gr_takeWhat y_gr_takeWhat ∈ lw_good := good_sel (q := (y_gr_takeWhat, 4)) (pv_2 (List.mem_of_getElem? (i := 5) rfl)) rfl
theorem cd_gr_atPlace : Cond.code y_gr_atPlace b_gr_atPlace 2 (some .boolean) ∈ lw_good := ga_4 230 rfl rfl
theorem im_gr_atPlace : Cond.instanceMethod y_gr_atPlace ∈ lw_good := ga_4 229 rfl rfl
theorem se_gr_atPlace : Cond.selects R_gr y_gr_atPlace y_gr_atPlace ∈ lw_good := good_sel (q := (y_gr_atPlace, 4)) (pv_2 (List.mem_of_getElem? (i := 6) rfl)) rfl
theorem cd_gr_takePlace : Cond.code y_gr_takePlace b_gr_takePlace 3 (some .boolean) ∈ lw_good := ga_4 234 rfl rfl
theorem im_gr_takePlace : Cond.instanceMethod y_gr_takePlace ∈ lw_good := ga_4 233 rfl rfl
theorem se_gr_takePlace : Cond.selects R_gr y_gr_takePlace y_gr_takePlace ∈ lw_good := good_sel (q := (y_gr_takePlace, 4)) (pv_2 (List.mem_of_getElem? (i := 7) rfl)) rfl
theorem cd_gr_takeName : Cond.code y_gr_takeName b_gr_takeName 1 (some .boolean) ∈ lw_good := ga_4 238 rfl rfl
theorem im_gr_takeName : Cond.instanceMethod y_gr_takeName ∈ lw_good := ga_4 237 rfl rfl
theorem se_gr_takeName : Cond.selects R_gr y_gr_takeName y_gr_takeName ∈ lw_good := good_sel (q := (y_gr_takeName, 4)) (pv_2 (List.mem_of_getElem? (i := 8) rfl)) rfl
theorem cd_gr_takeActing : Cond.code y_gr_takeActing b_gr_takeActing 1 (some .boolean) ∈ lw_good := ga_5 2 rfl rfl
theorem im_gr_takeActing : Cond.instanceMethod y_gr_takeActing ∈ lw_good := ga_5 1 rfl rfl
theorem se_gr_takeActing : Cond.selects R_gr y_gr_takeActing y_gr_takeActing ∈ lw_good := good_sel (q := (y_gr_takeActing, 4)) (pv_2 (List.mem_of_getElem? (i := 9) rfl)) rfl
theorem cd_gr_checkOthers : Cond.code y_gr_checkOthers b_gr_checkOthers 1 (some .boolean) ∈ lw_good := ga_5 6 rfl rfl
theorem im_gr_checkOthers : Cond.instanceMethod y_gr_checkOthers ∈ lw_good := ga_5 5 rfl rfl
theorem se_gr_checkOthers : Cond.selects R_gr y_gr_checkOthers y_gr_checkOthers ∈ lw_good := good_sel (q := (y_gr_checkOthers, 4)) (pv_2 (List.mem_of_getElem? (i := 10) rfl)) rfl
theorem cd_gr_takeBe : Cond.code y_gr_takeBe b_gr_takeBe 1 (some .boolean) ∈ lw_good := ga_5 10 rfl rfl
theorem im_gr_takeBe : Cond.instanceMethod y_gr_takeBe ∈ lw_good := ga_5 9 rfl rfl
theorem se_gr_takeBe : Cond.selects R_gr y_gr_takeBe y_gr_takeBe ∈ lw_good := good_sel (q := (y_gr_takeBe, 4)) (pv_2 (List.mem_of_getElem? (i := 11) rfl)) rfl
theorem cd_to_tellingKey : Cond.code y_to_tellingKey b_to_tellingKey 3 (some .int) ∈ lw_good := ga_5 14 rfl rfl
theorem im_to_tellingKey : Cond.instanceMethod y_to_tellingKey ∈ lw_good := ga_5 12 rfl rfl
theorem se_to_tellingKey : Cond.selects R_to y_to_tellingKey y_to_tellingKey ∈ lw_good := ga_5 13 rfl rfl
theorem cd_gr_checkBe : Cond.code y_gr_checkBe b_gr_checkBe 3 (some .boolean) ∈ lw_good := ga_5 18 rfl rfl
theorem im_gr_checkBe : Cond.instanceMethod y_gr_checkBe ∈ lw_good := ga_5 17 rfl rfl
theorem se_gr_checkBe : Cond.selects R_gr y_gr_checkBe y_gr_checkBe ∈ lw_good := good_sel (q := (y_gr_checkBe, 4)) (pv_2 (List.mem_of_getElem? (i := 12) rfl)) rfl
theorem cd_gr_takeList : Cond.code y_gr_takeList b_gr_takeList 3 (some .boolean) ∈ lw_good := ga_5 22 rfl rfl
theorem im_gr_takeList : Cond.instanceMethod y_gr_takeList ∈ lw_good := ga_5 21 rfl rfl
theorem se_gr_takeList : Cond.selects R_gr y_gr_takeList y_gr_takeList ∈ lw_good := good_sel (q := (y_gr_takeList, 4)) (pv_2 (List.mem_of_getElem? (i := 13) rfl)) rfl
theorem cd_gr_takeBetween : Cond.code y_gr_takeBetween b_gr_takeBetween 1 (some .boolean) ∈ lw_good := ga_5 26 rfl rfl
theorem im_gr_takeBetween : Cond.instanceMethod y_gr_takeBetween ∈ lw_good := ga_5 25 rfl rfl
theorem se_gr_takeBetween : Cond.selects R_gr y_gr_takeBetween y_gr_takeBetween ∈ lw_good := good_sel (q := (y_gr_takeBetween, 4)) (pv_2 (List.mem_of_getElem? (i := 14) rfl)) rfl
theorem cd_gr_checkRuns : Cond.code y_gr_checkRuns b_gr_checkRuns 3 (some .boolean) ∈ lw_good := ga_5 30 rfl rfl
theorem im_gr_checkRuns : Cond.instanceMethod y_gr_checkRuns ∈ lw_good := ga_5 29 rfl rfl
theorem se_gr_checkRuns : Cond.selects R_gr y_gr_checkRuns y_gr_checkRuns ∈ lw_good := good_sel (q := (y_gr_checkRuns, 4)) (pv_2 (List.mem_of_getElem? (i := 15) rfl)) rfl
theorem cd_gr_takeHowMany : Cond.code y_gr_takeHowMany b_gr_takeHowMany 1 (some .boolean) ∈ lw_good := ga_5 34 rfl rfl
theorem im_gr_takeHowMany : Cond.instanceMethod y_gr_takeHowMany ∈ lw_good := ga_5 33 rfl rfl
theorem se_gr_takeHowMany : Cond.selects R_gr y_gr_takeHowMany y_gr_takeHowMany ∈ lw_good := good_sel (q := (y_gr_takeHowMany, 4)) (pv_3 (List.mem_of_getElem? (i := 0) rfl)) rfl
theorem cd_gr_takePhrases : Cond.code y_gr_takePhrases b_gr_takePhrases 3 (some .boolean) ∈ lw_good := ga_5 38 rfl rfl
theorem im_gr_takePhrases : Cond.instanceMethod y_gr_takePhrases ∈ lw_good := ga_5 37 rfl rfl
theorem se_gr_takePhrases : Cond.selects R_gr y_gr_takePhrases y_gr_takePhrases ∈ lw_good := good_sel (q := (y_gr_takePhrases, 4)) (pv_3 (List.mem_of_getElem? (i := 1) rfl)) rfl
theorem cd_gr_takePhrase : Cond.code y_gr_takePhrase b_gr_takePhrase 4 (some .boolean) ∈ lw_good := ga_5 42 rfl rfl
theorem im_gr_takePhrase : Cond.instanceMethod y_gr_takePhrase ∈ lw_good := ga_5 41 rfl rfl
theorem se_gr_takePhrase : Cond.selects R_gr y_gr_takePhrase y_gr_takePhrase ∈ lw_good := good_sel (q := (y_gr_takePhrase, 4)) (pv_3 (List.mem_of_getElem? (i := 2) rfl)) rfl
theorem cd_re_beginSentence : Cond.code y_re_beginSentence b_re_beginSentence 1 (some .boolean) ∈ lw_good := ga_5 46 rfl rfl
theorem im_re_beginSentence : Cond.instanceMethod y_re_beginSentence ∈ lw_good := ga_5 44 rfl rfl
theorem se_re_beginSentence : Cond.selects R_re y_re_beginSentence y_re_beginSentence ∈ lw_good := ga_5 45 rfl rfl
theorem cd_re_describe : Cond.code y_re_describe b_re_describe 1 (some .boolean) ∈ lw_good := ga_5 50 rfl rfl
theorem im_re_describe : Cond.instanceMethod y_re_describe ∈ lw_good := ga_5 49 rfl rfl
theorem se_re_describe : Cond.selects R_re y_re_describe y_re_describe ∈ lw_good := good_sel (q := (y_re_describe, 14)) (pv_3 (List.mem_of_getElem? (i := 3) rfl)) rfl
theorem cd_to_placeAt : Cond.code y_to_placeAt b_to_placeAt 2 (some .int) ∈ lw_good := ga_5 55 rfl rfl
theorem im_to_placeAt : Cond.instanceMethod y_to_placeAt ∈ lw_good := ga_5 53 rfl rfl
theorem se_to_placeAt : Cond.selects R_to y_to_placeAt y_to_placeAt ∈ lw_good := ga_5 54 rfl rfl
theorem cd_to_valueAt : Cond.code y_to_valueAt b_to_valueAt 2 (some .int) ∈ lw_good := ga_5 59 rfl rfl
theorem im_to_valueAt : Cond.instanceMethod y_to_valueAt ∈ lw_good := ga_5 57 rfl rfl
theorem se_to_valueAt : Cond.selects R_to y_to_valueAt y_to_valueAt ∈ lw_good := ga_5 58 rfl rfl
theorem cd_wo_tellProperty : Cond.code y_wo_tellProperty b_wo_tellProperty 5 (some .boolean) ∈ lw_good := ga_5 63 rfl rfl
theorem im_wo_tellProperty : Cond.instanceMethod y_wo_tellProperty ∈ lw_good := ga_5 61 rfl rfl
theorem se_wo_tellProperty : Cond.selects R_wo y_wo_tellProperty y_wo_tellProperty ∈ lw_good := ga_5 62 rfl rfl
theorem cd_wo_sameText : Cond.code y_wo_sameText b_wo_sameText 6 (some .boolean) ∈ lw_good := ga_5 67 rfl rfl
theorem im_wo_sameText : Cond.instanceMethod y_wo_sameText ∈ lw_good := ga_5 65 rfl rfl
theorem se_wo_sameText : Cond.selects R_wo y_wo_sameText y_wo_sameText ∈ lw_good := ga_5 66 rfl rfl
theorem cd_wo_setProperty : Cond.code y_wo_setProperty b_wo_setProperty 5 none ∈ lw_good := ga_5 71 rfl rfl
theorem im_wo_setProperty : Cond.instanceMethod y_wo_setProperty ∈ lw_good := ga_5 69 rfl rfl
theorem se_wo_setProperty : Cond.selects R_wo y_wo_setProperty y_wo_setProperty ∈ lw_good := ga_5 70 rfl rfl
theorem cd_re_understand : Cond.code y_re_understand b_re_understand 3 (some .boolean) ∈ lw_good := ga_5 75 rfl rfl
theorem im_re_understand : Cond.instanceMethod y_re_understand ∈ lw_good := ga_5 74 rfl rfl
theorem se_re_understand : Cond.selects R_re y_re_understand y_re_understand ∈ lw_good := good_sel (q := (y_re_understand, 14)) (pv_3 (List.mem_of_getElem? (i := 4) rfl)) rfl
theorem cd_me_find : Cond.code y_me_find b_me_find 5 (some .int) ∈ lw_good := ga_5 80 rfl rfl
theorem im_me_find : Cond.instanceMethod y_me_find ∈ lw_good := ga_5 78 rfl rfl
theorem se_me_find : Cond.selects R_me y_me_find y_me_find ∈ lw_good := ga_5 79 rfl rfl
theorem cd_vo_meaning : Cond.code y_vo_meaning b_vo_meaning 11 (some .int) ∈ lw_good := ga_5 84 rfl rfl
theorem im_vo_meaning : Cond.instanceMethod y_vo_meaning ∈ lw_good := ga_5 82 rfl rfl
theorem se_vo_meaning : Cond.selects R_vo y_vo_meaning y_vo_meaning ∈ lw_good := ga_5 83 rfl rfl
theorem cd_co_takeText : Cond.code y_co_takeText b_co_takeText 7 (some .boolean) ∈ lw_good := ga_5 88 rfl rfl
theorem im_co_takeText : Cond.instanceMethod y_co_takeText ∈ lw_good := ga_5 86 rfl rfl
theorem se_co_takeText : Cond.selects R_co y_co_takeText y_co_takeText ∈ lw_good := ga_5 87 rfl rfl
theorem cd_co_takeGap : Cond.code y_co_takeGap b_co_takeGap 8 (some .int) ∈ lw_good := ga_5 92 rfl rfl
theorem im_co_takeGap : Cond.instanceMethod y_co_takeGap ∈ lw_good := ga_5 91 rfl rfl
theorem se_co_takeGap : Cond.selects R_co y_co_takeGap y_co_takeGap ∈ lw_good := good_sel (q := (y_co_takeGap, 14)) (pv_3 (List.mem_of_getElem? (i := 5) rfl)) rfl
theorem cd_co_wordEnd : Cond.code y_co_wordEnd b_co_wordEnd 4 (some .int) ∈ lw_good := ga_5 95 rfl rfl
theorem st_co_wordEnd : Cond.static y_co_wordEnd ∈ lw_good := ga_5 94 rfl rfl
theorem cd_co_codeOf : Cond.code y_co_codeOf b_co_codeOf 6 (some .long) ∈ lw_good := ga_5 99 rfl rfl
theorem st_co_codeOf : Cond.static y_co_codeOf ∈ lw_good := ga_5 98 rfl rfl
theorem cd_co_suits : Cond.code y_co_suits b_co_suits 4 (some .boolean) ∈ lw_good := ga_5 105 rfl rfl
theorem im_co_suits : Cond.instanceMethod y_co_suits ∈ lw_good := ga_5 103 rfl rfl
theorem se_co_suits : Cond.selects R_co y_co_suits y_co_suits ∈ lw_good := ga_5 104 rfl rfl
theorem cd_vo_isKind : Cond.code y_vo_isKind b_vo_isKind 5 (some .boolean) ∈ lw_good := ga_5 111 rfl rfl
theorem im_vo_isKind : Cond.instanceMethod y_vo_isKind ∈ lw_good := ga_5 109 rfl rfl
theorem se_vo_isKind : Cond.selects R_vo y_vo_isKind y_vo_isKind ∈ lw_good := ga_5 110 rfl rfl
theorem cd_re_startDefinition : Cond.code y_re_startDefinition b_re_startDefinition 4 (some .boolean) ∈ lw_good := ga_5 116 rfl rfl
theorem im_re_startDefinition : Cond.instanceMethod y_re_startDefinition ∈ lw_good := ga_5 115 rfl rfl
theorem se_re_startDefinition : Cond.selects R_re y_re_startDefinition y_re_startDefinition ∈ lw_good := good_sel (q := (y_re_startDefinition, 14)) (pv_3 (List.mem_of_getElem? (i := 6) rfl)) rfl
theorem cd_vo_countOf : Cond.code y_vo_countOf b_vo_countOf 2 (some .int) ∈ lw_good := ga_5 121 rfl rfl
theorem im_vo_countOf : Cond.instanceMethod y_vo_countOf ∈ lw_good := ga_5 119 rfl rfl
theorem se_vo_countOf : Cond.selects R_vo y_vo_countOf y_vo_countOf ∈ lw_good := ga_5 120 rfl rfl
theorem cd_re_takeNew : Cond.code y_re_takeNew b_re_takeNew 5 (some .boolean) ∈ lw_good := ga_5 125 rfl rfl
theorem im_re_takeNew : Cond.instanceMethod y_re_takeNew ∈ lw_good := ga_5 124 rfl rfl
theorem se_re_takeNew : Cond.selects R_re y_re_takeNew y_re_takeNew ∈ lw_good := good_sel (q := (y_re_takeNew, 14)) (pv_3 (List.mem_of_getElem? (i := 7) rfl)) rfl
theorem cd_re_wasNew : Cond.code y_re_wasNew b_re_wasNew 5 (some .boolean) ∈ lw_good := ga_5 130 rfl rfl
theorem im_re_wasNew : Cond.instanceMethod y_re_wasNew ∈ lw_good := ga_5 129 rfl rfl
theorem se_re_wasNew : Cond.selects R_re y_re_wasNew y_re_wasNew ∈ lw_good := good_sel (q := (y_re_wasNew, 14)) (pv_3 (List.mem_of_getElem? (i := 8) rfl)) rfl
theorem cd_rr_tests : Cond.code y_rr_tests b_rr_tests 5 (some .boolean) ∈ lw_good := ga_5 134 rfl rfl
theorem im_rr_tests : Cond.instanceMethod y_rr_tests ∈ lw_good := ga_5 132 rfl rfl
theorem se_rr_tests : Cond.selects R_rr y_rr_tests y_rr_tests ∈ lw_good := ga_5 133 rfl rfl
theorem cd_bo_nextClause : Cond.code y_bo_nextClause b_bo_nextClause 3 (some (.object "RuleSentences$Clause")) ∈ lw_good := ga_5 140 rfl rfl
theorem im_bo_nextClause : Cond.instanceMethod y_bo_nextClause ∈ lw_good := ga_5 138 rfl rfl
theorem se_bo_nextClause : Cond.selects R_bo y_bo_nextClause y_bo_nextClause ∈ lw_good := ga_5 139 rfl rfl
theorem cd_cl_start : Cond.code y_cl_start b_cl_start 2 none ∈ lw_good := ga_5 144 rfl rfl
theorem im_cl_start : Cond.instanceMethod y_cl_start ∈ lw_good := ga_5 142 rfl rfl
theorem se_cl_start : Cond.selects R_cl y_cl_start y_cl_start ∈ lw_good := ga_5 143 rfl rfl
theorem cd_rr_test : Cond.code y_rr_test b_rr_test 8 (some .boolean) ∈ lw_good := ga_5 148 rfl rfl
theorem im_rr_test : Cond.instanceMethod y_rr_test ∈ lw_good := ga_5 147 rfl rfl
theorem se_rr_test : Cond.selects R_rr y_rr_test y_rr_test ∈ lw_good := good_sel (q := (y_rr_test, 7)) (pv_3 (List.mem_of_getElem? (i := 9) rfl)) rfl
theorem cd_rr_saying : Cond.code y_rr_saying b_rr_saying 11 (some .boolean) ∈ lw_good := ga_5 153 rfl rfl
theorem im_rr_saying : Cond.instanceMethod y_rr_saying ∈ lw_good := ga_5 152 rfl rfl
theorem se_rr_saying : Cond.selects R_rr y_rr_saying y_rr_saying ∈ lw_good := good_sel (q := (y_rr_saying, 7)) (pv_3 (List.mem_of_getElem? (i := 10) rfl)) rfl
theorem cd_me_readThing : Cond.code y_me_readThing b_me_readThing 6 (some .int) ∈ lw_good := ga_5 159 rfl rfl
theorem im_me_readThing : Cond.instanceMethod y_me_readThing ∈ lw_good := ga_5 157 rfl rfl
theorem se_me_readThing : Cond.selects R_me y_me_readThing y_me_readThing ∈ lw_good := ga_5 158 rfl rfl
theorem cd_rr_propertyTest : Cond.code y_rr_propertyTest b_rr_propertyTest 8 (some .boolean) ∈ lw_good := ga_5 168 rfl rfl
theorem im_rr_propertyTest : Cond.instanceMethod y_rr_propertyTest ∈ lw_good := ga_5 167 rfl rfl
theorem se_rr_propertyTest : Cond.selects R_rr y_rr_propertyTest y_rr_propertyTest ∈ lw_good := good_sel (q := (y_rr_propertyTest, 7)) (pv_3 (List.mem_of_getElem? (i := 11) rfl)) rfl
theorem cd_rr_propertyOfThing : Cond.code y_rr_propertyOfThing b_rr_propertyOfThing 5 (some .boolean) ∈ lw_good := ga_5 173 rfl rfl
theorem im_rr_propertyOfThing : Cond.instanceMethod y_rr_propertyOfThing ∈ lw_good := ga_5 172 rfl rfl
theorem se_rr_propertyOfThing : Cond.selects R_rr y_rr_propertyOfThing y_rr_propertyOfThing ∈ lw_good := good_sel (q := (y_rr_propertyOfThing, 7)) (pv_3 (List.mem_of_getElem? (i := 12) rfl)) rfl
theorem cd_me_readProperty : Cond.code y_me_readProperty b_me_readProperty 7 (some .int) ∈ lw_good := ga_5 178 rfl rfl
theorem im_me_readProperty : Cond.instanceMethod y_me_readProperty ∈ lw_good := ga_5 176 rfl rfl
theorem se_me_readProperty : Cond.selects R_me y_me_readProperty y_me_readProperty ∈ lw_good := ga_5 177 rfl rfl
theorem cd_vo_propertiesOf : Cond.code y_vo_propertiesOf b_vo_propertiesOf 5 (some .int) ∈ lw_good := ga_5 182 rfl rfl
theorem im_vo_propertiesOf : Cond.instanceMethod y_vo_propertiesOf ∈ lw_good := ga_5 180 rfl rfl
theorem se_vo_propertiesOf : Cond.selects R_vo y_vo_propertiesOf y_vo_propertiesOf ∈ lw_good := ga_5 181 rfl rfl
theorem cd_me_readWhat : Cond.code y_me_readWhat b_me_readWhat 5 (some .boolean) ∈ lw_good := ga_5 188 rfl rfl
theorem im_me_readWhat : Cond.instanceMethod y_me_readWhat ∈ lw_good := ga_5 186 rfl rfl
theorem se_me_readWhat : Cond.selects R_me y_me_readWhat y_me_readWhat ∈ lw_good := ga_5 187 rfl rfl
theorem cd_rr_placeTest : Cond.code y_rr_placeTest b_rr_placeTest 5 (some .boolean) ∈ lw_good := ga_5 194 rfl rfl
theorem im_rr_placeTest : Cond.instanceMethod y_rr_placeTest ∈ lw_good := ga_5 193 rfl rfl
theorem se_rr_placeTest : Cond.selects R_rr y_rr_placeTest y_rr_placeTest ∈ lw_good := good_sel (q := (y_rr_placeTest, 7)) (pv_3 (List.mem_of_getElem? (i := 13) rfl)) rfl
theorem cd_rr_wayOf : Cond.code y_rr_wayOf b_rr_wayOf 1 (some .int) ∈ lw_good := ga_5 197 rfl rfl
theorem st_rr_wayOf : Cond.static y_rr_wayOf ∈ lw_good := ga_5 196 rfl rfl
theorem cd_me_readAdjective : Cond.code y_me_readAdjective b_me_readAdjective 10 (some .int) ∈ lw_good := ga_5 201 rfl rfl
theorem im_me_readAdjective : Cond.instanceMethod y_me_readAdjective ∈ lw_good := ga_5 199 rfl rfl
theorem se_me_readAdjective : Cond.selects R_me y_me_readAdjective y_me_readAdjective ∈ lw_good := ga_5 200 rfl rfl
theorem cd_rr_nameAdjective : Cond.code y_rr_nameAdjective b_rr_nameAdjective 3 none ∈ lw_good := ga_5 205 rfl rfl
theorem st_rr_nameAdjective : Cond.static y_rr_nameAdjective ∈ lw_good := ga_5 204 rfl rfl
theorem cd_re_endDefinition : Cond.code y_re_endDefinition b_re_endDefinition 2 (some .boolean) ∈ lw_good := ga_5 209 rfl rfl
theorem im_re_endDefinition : Cond.instanceMethod y_re_endDefinition ∈ lw_good := ga_5 208 rfl rfl
theorem se_re_endDefinition : Cond.selects R_re y_re_endDefinition y_re_endDefinition ∈ lw_good := good_sel (q := (y_re_endDefinition, 14)) (pv_3 (List.mem_of_getElem? (i := 14) rfl)) rfl
theorem cd_vo_tellNew : Cond.code y_vo_tellNew b_vo_tellNew 6 (some .int) ∈ lw_good := ga_5 213 rfl rfl
theorem im_vo_tellNew : Cond.instanceMethod y_vo_tellNew ∈ lw_good := ga_5 211 rfl rfl
theorem se_vo_tellNew : Cond.selects R_vo y_vo_tellNew y_vo_tellNew ∈ lw_good := ga_5 212 rfl rfl
theorem cd_vo_nameIt : Cond.code y_vo_nameIt b_vo_nameIt 8 none ∈ lw_good := ga_5 217 rfl rfl
theorem im_vo_nameIt : Cond.instanceMethod y_vo_nameIt ∈ lw_good := ga_5 215 rfl rfl
theorem se_vo_nameIt : Cond.selects R_vo y_vo_nameIt y_vo_nameIt ∈ lw_good := ga_5 216 rfl rfl
theorem cd_vo_entryOf : Cond.code y_vo_entryOf b_vo_entryOf 4 (some .int) ∈ lw_good := ga_5 221 rfl rfl
theorem im_vo_entryOf : Cond.instanceMethod y_vo_entryOf ∈ lw_good := ga_5 220 rfl rfl
theorem se_vo_entryOf : Cond.selects R_vo y_vo_entryOf y_vo_entryOf ∈ lw_good := good_sel (q := (y_vo_entryOf, 19)) (pv_3 (List.mem_of_getElem? (i := 15) rfl)) rfl
theorem cd_rr_keepTests : Cond.code y_rr_keepTests b_rr_keepTests 2 none ∈ lw_good := ga_5 225 rfl rfl
theorem im_rr_keepTests : Cond.instanceMethod y_rr_keepTests ∈ lw_good := ga_5 223 rfl rfl
theorem se_rr_keepTests : Cond.selects R_rr y_rr_keepTests y_rr_keepTests ∈ lw_good := ga_5 224 rfl rfl
theorem cd_re_tellVerb : Cond.code y_re_tellVerb b_re_tellVerb 5 (some .boolean) ∈ lw_good := ga_5 229 rfl rfl
theorem im_re_tellVerb : Cond.instanceMethod y_re_tellVerb ∈ lw_good := ga_5 228 rfl rfl
theorem se_re_tellVerb : Cond.selects R_re y_re_tellVerb y_re_tellVerb ∈ lw_good := good_sel (q := (y_re_tellVerb, 14)) (pv_4 (List.mem_of_getElem? (i := 0) rfl)) rfl
theorem cd_re_tellPlural : Cond.code y_re_tellPlural b_re_tellPlural 7 (some .boolean) ∈ lw_good := ga_5 236 rfl rfl
theorem im_re_tellPlural : Cond.instanceMethod y_re_tellPlural ∈ lw_good := ga_5 235 rfl rfl
theorem se_re_tellPlural : Cond.selects R_re y_re_tellPlural y_re_tellPlural ∈ lw_good := good_sel (q := (y_re_tellPlural, 14)) (pv_4 (List.mem_of_getElem? (i := 1) rfl)) rfl
theorem cd_rr_ruleHead : Cond.code y_rr_ruleHead b_rr_ruleHead 5 (some .boolean) ∈ lw_good := ga_6 1 rfl rfl
theorem im_rr_ruleHead : Cond.instanceMethod y_rr_ruleHead ∈ lw_good := ga_5 239 rfl rfl
theorem se_rr_ruleHead : Cond.selects R_rr y_rr_ruleHead y_rr_ruleHead ∈ lw_good := ga_6 0 rfl rfl
theorem cd_rr_sortOfRule : Cond.code y_rr_sortOfRule b_rr_sortOfRule 1 (some .int) ∈ lw_good := ga_6 4 rfl rfl
theorem st_rr_sortOfRule : Cond.static y_rr_sortOfRule ∈ lw_good := ga_6 3 rfl rfl
theorem cd_bo_startRule : Cond.code y_bo_startRule b_bo_startRule 3 (some (.array .int)) ∈ lw_good := ga_6 8 rfl rfl
theorem im_bo_startRule : Cond.instanceMethod y_bo_startRule ∈ lw_good := ga_6 6 rfl rfl
theorem se_bo_startRule : Cond.selects R_bo y_bo_startRule y_bo_startRule ∈ lw_good := ga_6 7 rfl rfl
theorem cd_rr_actingOn : Cond.code y_rr_actingOn b_rr_actingOn 10 (some .boolean) ∈ lw_good := ga_6 14 rfl rfl
theorem im_rr_actingOn : Cond.instanceMethod y_rr_actingOn ∈ lw_good := ga_6 13 rfl rfl
theorem se_rr_actingOn : Cond.selects R_rr y_rr_actingOn y_rr_actingOn ∈ lw_good := good_sel (q := (y_rr_actingOn, 7)) (pv_4 (List.mem_of_getElem? (i := 2) rfl)) rfl
theorem cd_me_countReadings : Cond.code y_me_countReadings b_me_countReadings 10 (some .int) ∈ lw_good := ga_6 18 rfl rfl
theorem im_me_countReadings : Cond.instanceMethod y_me_countReadings ∈ lw_good := ga_6 16 rfl rfl
theorem se_me_countReadings : Cond.selects R_me y_me_countReadings y_me_countReadings ∈ lw_good := ga_6 17 rfl rfl
theorem cd_me_countParts : Cond.code y_me_countParts b_me_countParts 8 (some .int) ∈ lw_good := ga_6 23 rfl rfl
theorem im_me_countParts : Cond.instanceMethod y_me_countParts ∈ lw_good := ga_6 22 rfl rfl
theorem se_me_countParts : Cond.selects R_me y_me_countParts y_me_countParts ∈ lw_good := good_sel (q := (y_me_countParts, 18)) (pv_4 (List.mem_of_getElem? (i := 3) rfl)) rfl
theorem cd_me_keepReading : Cond.code y_me_keepReading b_me_keepReading 6 none ∈ lw_good := ga_6 28 rfl rfl
theorem im_me_keepReading : Cond.instanceMethod y_me_keepReading ∈ lw_good := ga_6 26 rfl rfl
theorem se_me_keepReading : Cond.selects R_me y_me_keepReading y_me_keepReading ∈ lw_good := ga_6 27 rfl rfl
theorem cd_rr_actingAlone : Cond.code y_rr_actingAlone b_rr_actingAlone 9 (some .boolean) ∈ lw_good := ga_6 32 rfl rfl
theorem im_rr_actingAlone : Cond.instanceMethod y_rr_actingAlone ∈ lw_good := ga_6 31 rfl rfl
theorem se_rr_actingAlone : Cond.selects R_rr y_rr_actingAlone y_rr_actingAlone ∈ lw_good := good_sel (q := (y_rr_actingAlone, 7)) (pv_4 (List.mem_of_getElem? (i := 4) rfl)) rfl
theorem cd_wo_isA : Cond.code y_wo_isA b_wo_isA 3 (some .boolean) ∈ lw_good := ga_6 36 rfl rfl
theorem im_wo_isA : Cond.instanceMethod y_wo_isA ∈ lw_good := ga_6 34 rfl rfl
theorem se_wo_isA : Cond.selects R_wo y_wo_isA y_wo_isA ∈ lw_good := ga_6 35 rfl rfl
theorem cd_rr_nameNoun : Cond.code y_rr_nameNoun b_rr_nameNoun 2 none ∈ lw_good := ga_6 41 rfl rfl
theorem im_rr_nameNoun : Cond.instanceMethod y_rr_nameNoun ∈ lw_good := ga_6 40 rfl rfl
theorem se_rr_nameNoun : Cond.selects R_rr y_rr_nameNoun y_rr_nameNoun ∈ lw_good := good_sel (q := (y_rr_nameNoun, 7)) (pv_4 (List.mem_of_getElem? (i := 5) rfl)) rfl
theorem cd_rr_whenEnd : Cond.code y_rr_whenEnd b_rr_whenEnd 1 (some .int) ∈ lw_good := ga_6 45 rfl rfl
theorem im_rr_whenEnd : Cond.instanceMethod y_rr_whenEnd ∈ lw_good := ga_6 43 rfl rfl
theorem se_rr_whenEnd : Cond.selects R_rr y_rr_whenEnd y_rr_whenEnd ∈ lw_good := ga_6 44 rfl rfl
theorem cd_rr_rulePhrases : Cond.code y_rr_rulePhrases b_rr_rulePhrases 8 (some .boolean) ∈ lw_good := ga_6 49 rfl rfl
theorem im_rr_rulePhrases : Cond.instanceMethod y_rr_rulePhrases ∈ lw_good := ga_6 47 rfl rfl
theorem se_rr_rulePhrases : Cond.selects R_rr y_rr_rulePhrases y_rr_rulePhrases ∈ lw_good := ga_6 48 rfl rfl
theorem cd_rr_sayText : Cond.code y_rr_sayText b_rr_sayText 8 (some .boolean) ∈ lw_good := ga_6 53 rfl rfl
theorem im_rr_sayText : Cond.instanceMethod y_rr_sayText ∈ lw_good := ga_6 52 rfl rfl
theorem se_rr_sayText : Cond.selects R_rr y_rr_sayText y_rr_sayText ∈ lw_good := good_sel (q := (y_rr_sayText, 7)) (pv_4 (List.mem_of_getElem? (i := 6) rfl)) rfl
theorem cd_rr_insert : Cond.code y_rr_insert b_rr_insert 9 (some .boolean) ∈ lw_good := ga_6 58 rfl rfl
theorem im_rr_insert : Cond.instanceMethod y_rr_insert ∈ lw_good := ga_6 57 rfl rfl
theorem se_rr_insert : Cond.selects R_rr y_rr_insert y_rr_insert ∈ lw_good := good_sel (q := (y_rr_insert, 7)) (pv_4 (List.mem_of_getElem? (i := 7) rfl)) rfl
theorem cd_to_takeInside : Cond.code y_to_takeInside b_to_takeInside 5 (some .int) ∈ lw_good := ga_6 62 rfl rfl
theorem im_to_takeInside : Cond.instanceMethod y_to_takeInside ∈ lw_good := ga_6 60 rfl rfl
theorem se_to_takeInside : Cond.selects R_to y_to_takeInside y_to_takeInside ∈ lw_good := ga_6 61 rfl rfl
theorem cd_bo_addInsert : Cond.code y_bo_addInsert b_bo_addInsert 3 none ∈ lw_good := ga_6 67 rfl rfl
theorem im_bo_addInsert : Cond.instanceMethod y_bo_addInsert ∈ lw_good := ga_6 65 rfl rfl
theorem se_bo_addInsert : Cond.selects R_bo y_bo_addInsert y_bo_addInsert ∈ lw_good := ga_6 66 rfl rfl
theorem cd_rr_otherPhrase : Cond.code y_rr_otherPhrase b_rr_otherPhrase 6 (some .boolean) ∈ lw_good := ga_6 71 rfl rfl
theorem im_rr_otherPhrase : Cond.instanceMethod y_rr_otherPhrase ∈ lw_good := ga_6 70 rfl rfl
theorem se_rr_otherPhrase : Cond.selects R_rr y_rr_otherPhrase y_rr_otherPhrase ∈ lw_good := good_sel (q := (y_rr_otherPhrase, 7)) (pv_4 (List.mem_of_getElem? (i := 8) rfl)) rfl
theorem cd_rr_movePhrase : Cond.code y_rr_movePhrase b_rr_movePhrase 5 (some .boolean) ∈ lw_good := ga_6 75 rfl rfl
theorem im_rr_movePhrase : Cond.instanceMethod y_rr_movePhrase ∈ lw_good := ga_6 74 rfl rfl
theorem se_rr_movePhrase : Cond.selects R_rr y_rr_movePhrase y_rr_movePhrase ∈ lw_good := good_sel (q := (y_rr_movePhrase, 7)) (pv_4 (List.mem_of_getElem? (i := 9) rfl)) rfl
theorem cd_rr_tryAlone : Cond.code y_rr_tryAlone b_rr_tryAlone 9 (some .boolean) ∈ lw_good := ga_6 79 rfl rfl
theorem im_rr_tryAlone : Cond.instanceMethod y_rr_tryAlone ∈ lw_good := ga_6 78 rfl rfl
theorem se_rr_tryAlone : Cond.selects R_rr y_rr_tryAlone y_rr_tryAlone ∈ lw_good := good_sel (q := (y_rr_tryAlone, 7)) (pv_4 (List.mem_of_getElem? (i := 10) rfl)) rfl
theorem cd_rr_tryOn : Cond.code y_rr_tryOn b_rr_tryOn 5 (some .boolean) ∈ lw_good := ga_6 83 rfl rfl
theorem im_rr_tryOn : Cond.instanceMethod y_rr_tryOn ∈ lw_good := ga_6 82 rfl rfl
theorem se_rr_tryOn : Cond.selects R_rr y_rr_tryOn y_rr_tryOn ∈ lw_good := good_sel (q := (y_rr_tryOn, 7)) (pv_4 (List.mem_of_getElem? (i := 11) rfl)) rfl
theorem cd_re_tellSentence : Cond.code y_re_tellSentence b_re_tellSentence 1 (some .boolean) ∈ lw_good := ga_6 87 rfl rfl
theorem im_re_tellSentence : Cond.instanceMethod y_re_tellSentence ∈ lw_good := ga_6 85 rfl rfl
theorem se_re_tellSentence : Cond.selects R_re y_re_tellSentence y_re_tellSentence ∈ lw_good := ga_6 86 rfl rfl
theorem cd_re_tellProperty : Cond.code y_re_tellProperty b_re_tellProperty 8 (some .boolean) ∈ lw_good := ga_6 91 rfl rfl
theorem im_re_tellProperty : Cond.instanceMethod y_re_tellProperty ∈ lw_good := ga_6 90 rfl rfl
theorem se_re_tellProperty : Cond.selects R_re y_re_tellProperty y_re_tellProperty ∈ lw_good := good_sel (q := (y_re_tellProperty, 14)) (pv_4 (List.mem_of_getElem? (i := 12) rfl)) rfl
theorem cd_re_tellKinds : Cond.code y_re_tellKinds b_re_tellKinds 9 (some .boolean) ∈ lw_good := ga_6 97 rfl rfl
theorem im_re_tellKinds : Cond.instanceMethod y_re_tellKinds ∈ lw_good := ga_6 96 rfl rfl
theorem se_re_tellKinds : Cond.selects R_re y_re_tellKinds y_re_tellKinds ∈ lw_good := good_sel (q := (y_re_tellKinds, 14)) (pv_4 (List.mem_of_getElem? (i := 13) rfl)) rfl
theorem cd_re_beginsName : Cond.code y_re_beginsName b_re_beginsName 2 (some .boolean) ∈ lw_good := ga_6 102 rfl rfl
theorem im_re_beginsName : Cond.instanceMethod y_re_beginsName ∈ lw_good := ga_6 101 rfl rfl
theorem se_re_beginsName : Cond.selects R_re y_re_beginsName y_re_beginsName ∈ lw_good := good_sel (q := (y_re_beginsName, 14)) (pv_4 (List.mem_of_getElem? (i := 14) rfl)) rfl
theorem cd_to_beginsRun : Cond.code y_to_beginsRun b_to_beginsRun 3 (some .boolean) ∈ lw_good := ga_6 106 rfl rfl
theorem im_to_beginsRun : Cond.instanceMethod y_to_beginsRun ∈ lw_good := ga_6 104 rfl rfl
theorem se_to_beginsRun : Cond.selects R_to y_to_beginsRun y_to_beginsRun ∈ lw_good := ga_6 105 rfl rfl
theorem cd_re_nameWithS : Cond.code y_re_nameWithS b_re_nameWithS 7 none ∈ lw_good := ga_6 110 rfl rfl
theorem im_re_nameWithS : Cond.instanceMethod y_re_nameWithS ∈ lw_good := ga_6 109 rfl rfl
theorem se_re_nameWithS : Cond.selects R_re y_re_nameWithS y_re_nameWithS ∈ lw_good := good_sel (q := (y_re_nameWithS, 14)) (pv_4 (List.mem_of_getElem? (i := 15) rfl)) rfl
theorem cd_re_tellActions : Cond.code y_re_tellActions b_re_tellActions 4 (some .boolean) ∈ lw_good := ga_6 114 rfl rfl
theorem im_re_tellActions : Cond.instanceMethod y_re_tellActions ∈ lw_good := ga_6 113 rfl rfl
theorem se_re_tellActions : Cond.selects R_re y_re_tellActions y_re_tellActions ∈ lw_good := good_sel (q := (y_re_tellActions, 14)) (pv_5 (List.mem_of_getElem? (i := 0) rfl)) rfl
theorem cd_re_tellObjects : Cond.code y_re_tellObjects b_re_tellObjects 4 (some .boolean) ∈ lw_good := ga_6 118 rfl rfl
theorem im_re_tellObjects : Cond.instanceMethod y_re_tellObjects ∈ lw_good := ga_6 117 rfl rfl
theorem se_re_tellObjects : Cond.selects R_re y_re_tellObjects y_re_tellObjects ∈ lw_good := good_sel (q := (y_re_tellObjects, 14)) (pv_5 (List.mem_of_getElem? (i := 1) rfl)) rfl
theorem cd_re_takeObjects : Cond.code y_re_takeObjects b_re_takeObjects 2 (some .boolean) ∈ lw_good := ga_6 122 rfl rfl
theorem im_re_takeObjects : Cond.instanceMethod y_re_takeObjects ∈ lw_good := ga_6 121 rfl rfl
theorem se_re_takeObjects : Cond.selects R_re y_re_takeObjects y_re_takeObjects ∈ lw_good := good_sel (q := (y_re_takeObjects, 14)) (pv_5 (List.mem_of_getElem? (i := 2) rfl)) rfl
theorem cd_re_takeObjectOrNew : Cond.code y_re_takeObjectOrNew b_re_takeObjectOrNew 5 (some .boolean) ∈ lw_good := ga_6 126 rfl rfl
theorem im_re_takeObjectOrNew : Cond.instanceMethod y_re_takeObjectOrNew ∈ lw_good := ga_6 125 rfl rfl
theorem se_re_takeObjectOrNew : Cond.selects R_re y_re_takeObjectOrNew y_re_takeObjectOrNew ∈ lw_good := good_sel (q := (y_re_takeObjectOrNew, 14)) (pv_5 (List.mem_of_getElem? (i := 3) rfl)) rfl
theorem cd_re_takeDescription : Cond.code y_re_takeDescription b_re_takeDescription 5 (some .boolean) ∈ lw_good := ga_6 131 rfl rfl
theorem im_re_takeDescription : Cond.instanceMethod y_re_takeDescription ∈ lw_good := ga_6 130 rfl rfl
theorem se_re_takeDescription : Cond.selects R_re y_re_takeDescription y_re_takeDescription ∈ lw_good := good_sel (q := (y_re_takeDescription, 14)) (pv_5 (List.mem_of_getElem? (i := 4) rfl)) rfl
theorem cd_re_takePlace : Cond.code y_re_takePlace b_re_takePlace 4 (some .boolean) ∈ lw_good := ga_6 137 rfl rfl
theorem im_re_takePlace : Cond.instanceMethod y_re_takePlace ∈ lw_good := ga_6 136 rfl rfl
theorem se_re_takePlace : Cond.selects R_re y_re_takePlace y_re_takePlace ∈ lw_good := good_sel (q := (y_re_takePlace, 14)) (pv_5 (List.mem_of_getElem? (i := 5) rfl)) rfl
theorem cd_re_canHold : Cond.code y_re_canHold b_re_canHold 3 (some .boolean) ∈ lw_good := ga_6 142 rfl rfl
theorem im_re_canHold : Cond.instanceMethod y_re_canHold ∈ lw_good := ga_6 141 rfl rfl
theorem se_re_canHold : Cond.selects R_re y_re_canHold y_re_canHold ∈ lw_good := good_sel (q := (y_re_canHold, 14)) (pv_5 (List.mem_of_getElem? (i := 6) rfl)) rfl
theorem cd_re_doObjects : Cond.code y_re_doObjects b_re_doObjects 6 (some .boolean) ∈ lw_good := ga_6 146 rfl rfl
theorem im_re_doObjects : Cond.instanceMethod y_re_doObjects ∈ lw_good := ga_6 145 rfl rfl
theorem se_re_doObjects : Cond.selects R_re y_re_doObjects y_re_doObjects ∈ lw_good := good_sel (q := (y_re_doObjects, 14)) (pv_5 (List.mem_of_getElem? (i := 7) rfl)) rfl
theorem cd_re_objectOrNew : Cond.code y_re_objectOrNew b_re_objectOrNew 5 (some .int) ∈ lw_good := ga_6 150 rfl rfl
theorem im_re_objectOrNew : Cond.instanceMethod y_re_objectOrNew ∈ lw_good := ga_6 149 rfl rfl
theorem se_re_objectOrNew : Cond.selects R_re y_re_objectOrNew y_re_objectOrNew ∈ lw_good := good_sel (q := (y_re_objectOrNew, 14)) (pv_5 (List.mem_of_getElem? (i := 8) rfl)) rfl
theorem cd_wo_tellKind : Cond.code y_wo_tellKind b_wo_tellKind 3 (some .boolean) ∈ lw_good := ga_6 155 rfl rfl
theorem im_wo_tellKind : Cond.instanceMethod y_wo_tellKind ∈ lw_good := ga_6 153 rfl rfl
theorem se_wo_tellKind : Cond.selects R_wo y_wo_tellKind y_wo_tellKind ∈ lw_good := ga_6 154 rfl rfl
theorem cd_re_tellAdjectives : Cond.code y_re_tellAdjectives b_re_tellAdjectives 3 (some .boolean) ∈ lw_good := ga_6 159 rfl rfl
theorem im_re_tellAdjectives : Cond.instanceMethod y_re_tellAdjectives ∈ lw_good := ga_6 158 rfl rfl
theorem se_re_tellAdjectives : Cond.selects R_re y_re_tellAdjectives y_re_tellAdjectives ∈ lw_good := good_sel (q := (y_re_tellAdjectives, 14)) (pv_5 (List.mem_of_getElem? (i := 9) rfl)) rfl
theorem cd_re_tellOne : Cond.code y_re_tellOne b_re_tellOne 5 (some .boolean) ∈ lw_good := ga_6 163 rfl rfl
theorem im_re_tellOne : Cond.instanceMethod y_re_tellOne ∈ lw_good := ga_6 162 rfl rfl
theorem se_re_tellOne : Cond.selects R_re y_re_tellOne y_re_tellOne ∈ lw_good := good_sel (q := (y_re_tellOne, 14)) (pv_5 (List.mem_of_getElem? (i := 10) rfl)) rfl
theorem cd_wo_tellAdjective : Cond.code y_wo_tellAdjective b_wo_tellAdjective 4 (some .boolean) ∈ lw_good := ga_6 167 rfl rfl
theorem im_wo_tellAdjective : Cond.instanceMethod y_wo_tellAdjective ∈ lw_good := ga_6 165 rfl rfl
theorem se_wo_tellAdjective : Cond.selects R_wo y_wo_tellAdjective y_wo_tellAdjective ∈ lw_good := ga_6 166 rfl rfl
theorem cd_wo_setAdjective : Cond.code y_wo_setAdjective b_wo_setAdjective 5 none ∈ lw_good := ga_6 171 rfl rfl
theorem im_wo_setAdjective : Cond.instanceMethod y_wo_setAdjective ∈ lw_good := ga_6 169 rfl rfl
theorem se_wo_setAdjective : Cond.selects R_wo y_wo_setAdjective y_wo_setAdjective ∈ lw_good := ga_6 170 rfl rfl
theorem cd_wo_tellPlace : Cond.code y_wo_tellPlace b_wo_tellPlace 4 (some .int) ∈ lw_good := ga_6 175 rfl rfl
theorem im_wo_tellPlace : Cond.instanceMethod y_wo_tellPlace ∈ lw_good := ga_6 173 rfl rfl
theorem se_wo_tellPlace : Cond.selects R_wo y_wo_tellPlace y_wo_tellPlace ∈ lw_good := ga_6 174 rfl rfl
theorem cd_wo_isWithin : Cond.code y_wo_isWithin b_wo_isWithin 5 (some .boolean) ∈ lw_good := ga_6 180 rfl rfl
theorem im_wo_isWithin : Cond.instanceMethod y_wo_isWithin ∈ lw_good := ga_6 178 rfl rfl
theorem se_wo_isWithin : Cond.selects R_wo y_wo_isWithin y_wo_isWithin ∈ lw_good := ga_6 179 rfl rfl
theorem cd_wo_place : Cond.code y_wo_place b_wo_place 4 none ∈ lw_good := ga_6 184 rfl rfl
theorem im_wo_place : Cond.instanceMethod y_wo_place ∈ lw_good := ga_6 182 rfl rfl
theorem se_wo_place : Cond.selects R_wo y_wo_place y_wo_place ∈ lw_good := ga_6 183 rfl rfl
theorem cd_re_tellWay : Cond.code y_re_tellWay b_re_tellWay 7 (some .boolean) ∈ lw_good := ga_6 188 rfl rfl
theorem im_re_tellWay : Cond.instanceMethod y_re_tellWay ∈ lw_good := ga_6 187 rfl rfl
theorem se_re_tellWay : Cond.selects R_re y_re_tellWay y_re_tellWay ∈ lw_good := good_sel (q := (y_re_tellWay, 14)) (pv_5 (List.mem_of_getElem? (i := 11) rfl)) rfl
theorem cd_re_secondName : Cond.code y_re_secondName b_re_secondName 2 (some .int) ∈ lw_good := ga_6 192 rfl rfl
theorem im_re_secondName : Cond.instanceMethod y_re_secondName ∈ lw_good := ga_6 191 rfl rfl
theorem se_re_secondName : Cond.selects R_re y_re_secondName y_re_secondName ∈ lw_good := good_sel (q := (y_re_secondName, 14)) (pv_5 (List.mem_of_getElem? (i := 12) rfl)) rfl
theorem cd_wo_tellWay : Cond.code y_wo_tellWay b_wo_tellWay 4 (some .boolean) ∈ lw_good := ga_6 196 rfl rfl
theorem im_wo_tellWay : Cond.instanceMethod y_wo_tellWay ∈ lw_good := ga_6 194 rfl rfl
theorem se_wo_tellWay : Cond.selects R_wo y_wo_tellWay y_wo_tellWay ∈ lw_good := ga_6 195 rfl rfl
theorem cd_re_tellsUsually : Cond.code y_re_tellsUsually b_re_tellsUsually 1 (some .boolean) ∈ lw_good := ga_6 200 rfl rfl
theorem im_re_tellsUsually : Cond.instanceMethod y_re_tellsUsually ∈ lw_good := ga_6 199 rfl rfl
theorem se_re_tellsUsually : Cond.selects R_re y_re_tellsUsually y_re_tellsUsually ∈ lw_good := good_sel (q := (y_re_tellsUsually, 14)) (pv_5 (List.mem_of_getElem? (i := 13) rfl)) rfl
theorem cd_re_tellUsually : Cond.code y_re_tellUsually b_re_tellUsually 5 (some .boolean) ∈ lw_good := ga_6 204 rfl rfl
theorem im_re_tellUsually : Cond.instanceMethod y_re_tellUsually ∈ lw_good := ga_6 203 rfl rfl
theorem se_re_tellUsually : Cond.selects R_re y_re_tellUsually y_re_tellUsually ∈ lw_good := good_sel (q := (y_re_tellUsually, 14)) (pv_5 (List.mem_of_getElem? (i := 14) rfl)) rfl
theorem cd_re_tellsValues : Cond.code y_re_tellsValues b_re_tellsValues 1 (some .boolean) ∈ lw_good := ga_6 209 rfl rfl
theorem im_re_tellsValues : Cond.instanceMethod y_re_tellsValues ∈ lw_good := ga_6 208 rfl rfl
theorem se_re_tellsValues : Cond.selects R_re y_re_tellsValues y_re_tellsValues ∈ lw_good := good_sel (q := (y_re_tellsValues, 14)) (pv_5 (List.mem_of_getElem? (i := 15) rfl)) rfl
theorem cd_re_typeMeant : Cond.code y_re_typeMeant b_re_typeMeant 4 (some .int) ∈ lw_good := ga_6 213 rfl rfl
theorem im_re_typeMeant : Cond.instanceMethod y_re_typeMeant ∈ lw_good := ga_6 212 rfl rfl
theorem se_re_typeMeant : Cond.selects R_re y_re_typeMeant y_re_typeMeant ∈ lw_good := good_sel (q := (y_re_typeMeant, 14)) (pv_6 (List.mem_of_getElem? (i := 0) rfl)) rfl
theorem cd_re_tellValues : Cond.code y_re_tellValues b_re_tellValues 4 (some .boolean) ∈ lw_good := ga_6 217 rfl rfl
theorem im_re_tellValues : Cond.instanceMethod y_re_tellValues ∈ lw_good := ga_6 216 rfl rfl
theorem se_re_tellValues : Cond.selects R_re y_re_tellValues y_re_tellValues ∈ lw_good := good_sel (q := (y_re_tellValues, 14)) (pv_6 (List.mem_of_getElem? (i := 1) rfl)) rfl
theorem cd_vo_valuesOf : Cond.code y_vo_valuesOf b_vo_valuesOf 4 (some .int) ∈ lw_good := ga_6 222 rfl rfl
theorem im_vo_valuesOf : Cond.instanceMethod y_vo_valuesOf ∈ lw_good := ga_6 220 rfl rfl
theorem se_vo_valuesOf : Cond.selects R_vo y_vo_valuesOf y_vo_valuesOf ∈ lw_good := ga_6 221 rfl rfl
theorem cd_re_tellPlain : Cond.code y_re_tellPlain b_re_tellPlain 8 (some .boolean) ∈ lw_good := ga_6 226 rfl rfl
theorem im_re_tellPlain : Cond.instanceMethod y_re_tellPlain ∈ lw_good := ga_6 225 rfl rfl
theorem se_re_tellPlain : Cond.selects R_re y_re_tellPlain y_re_tellPlain ∈ lw_good := good_sel (q := (y_re_tellPlain, 14)) (pv_6 (List.mem_of_getElem? (i := 2) rfl)) rfl
theorem cd_re_takeOldObjects : Cond.code y_re_takeOldObjects b_re_takeOldObjects 2 (some .boolean) ∈ lw_good := ga_6 230 rfl rfl
theorem im_re_takeOldObjects : Cond.instanceMethod y_re_takeOldObjects ∈ lw_good := ga_6 229 rfl rfl
theorem se_re_takeOldObjects : Cond.selects R_re y_re_takeOldObjects y_re_takeOldObjects ∈ lw_good := good_sel (q := (y_re_takeOldObjects, 14)) (pv_6 (List.mem_of_getElem? (i := 3) rfl)) rfl
theorem cd_re_adjectiveSuits : Cond.code y_re_adjectiveSuits b_re_adjectiveSuits 8 (some .boolean) ∈ lw_good := ga_6 234 rfl rfl
theorem im_re_adjectiveSuits : Cond.instanceMethod y_re_adjectiveSuits ∈ lw_good := ga_6 233 rfl rfl
theorem se_re_adjectiveSuits : Cond.selects R_re y_re_adjectiveSuits y_re_adjectiveSuits ∈ lw_good := good_sel (q := (y_re_adjectiveSuits, 14)) (pv_6 (List.mem_of_getElem? (i := 4) rfl)) rfl
theorem cd_re_doAdjective : Cond.code y_re_doAdjective b_re_doAdjective 7 (some .boolean) ∈ lw_good := ga_6 238 rfl rfl
theorem im_re_doAdjective : Cond.instanceMethod y_re_doAdjective ∈ lw_good := ga_6 237 rfl rfl
theorem se_re_doAdjective : Cond.selects R_re y_re_doAdjective y_re_doAdjective ∈ lw_good := good_sel (q := (y_re_doAdjective, 14)) (pv_6 (List.mem_of_getElem? (i := 5) rfl)) rfl
theorem cd_re_tellHas : Cond.code y_re_tellHas b_re_tellHas 10 (some .boolean) ∈ lw_good := ga_7 2 rfl rfl
theorem im_re_tellHas : Cond.instanceMethod y_re_tellHas ∈ lw_good := ga_7 1 rfl rfl
theorem se_re_tellHas : Cond.selects R_re y_re_tellHas y_re_tellHas ∈ lw_good := good_sel (q := (y_re_tellHas, 14)) (pv_6 (List.mem_of_getElem? (i := 6) rfl)) rfl
theorem cd_re_tellCan : Cond.code y_re_tellCan b_re_tellCan 8 (some .boolean) ∈ lw_good := ga_7 6 rfl rfl
theorem im_re_tellCan : Cond.instanceMethod y_re_tellCan ∈ lw_good := ga_7 5 rfl rfl
theorem se_re_tellCan : Cond.selects R_re y_re_tellCan y_re_tellCan ∈ lw_good := good_sel (q := (y_re_tellCan, 14)) (pv_6 (List.mem_of_getElem? (i := 7) rfl)) rfl
theorem cd_re_tellRelation : Cond.code y_re_tellRelation b_re_tellRelation 8 (some .boolean) ∈ lw_good := ga_7 11 rfl rfl
theorem im_re_tellRelation : Cond.instanceMethod y_re_tellRelation ∈ lw_good := ga_7 10 rfl rfl
theorem se_re_tellRelation : Cond.selects R_re y_re_tellRelation y_re_tellRelation ∈ lw_good := good_sel (q := (y_re_tellRelation, 14)) (pv_6 (List.mem_of_getElem? (i := 8) rfl)) rfl
theorem cd_re_kindMeant : Cond.code y_re_kindMeant b_re_kindMeant 3 (some .int) ∈ lw_good := ga_7 15 rfl rfl
theorem im_re_kindMeant : Cond.instanceMethod y_re_kindMeant ∈ lw_good := ga_7 14 rfl rfl
theorem se_re_kindMeant : Cond.selects R_re y_re_kindMeant y_re_kindMeant ∈ lw_good := good_sel (q := (y_re_kindMeant, 14)) (pv_6 (List.mem_of_getElem? (i := 9) rfl)) rfl
theorem cd_re_tellLoose : Cond.code y_re_tellLoose b_re_tellLoose 10 (some .boolean) ∈ lw_good := ga_7 19 rfl rfl
theorem im_re_tellLoose : Cond.instanceMethod y_re_tellLoose ∈ lw_good := ga_7 18 rfl rfl
theorem se_re_tellLoose : Cond.selects R_re y_re_tellLoose y_re_tellLoose ∈ lw_good := good_sel (q := (y_re_tellLoose, 14)) (pv_6 (List.mem_of_getElem? (i := 10) rfl)) rfl
theorem cd_re_isObjectList : Cond.code y_re_isObjectList b_re_isObjectList 8 (some .boolean) ∈ lw_good := ga_7 23 rfl rfl
theorem im_re_isObjectList : Cond.instanceMethod y_re_isObjectList ∈ lw_good := ga_7 22 rfl rfl
theorem se_re_isObjectList : Cond.selects R_re y_re_isObjectList y_re_isObjectList ∈ lw_good := good_sel (q := (y_re_isObjectList, 14)) (pv_6 (List.mem_of_getElem? (i := 11) rfl)) rfl
theorem cd_re_relateAll : Cond.code y_re_relateAll b_re_relateAll 8 (some .boolean) ∈ lw_good := ga_7 29 rfl rfl
theorem im_re_relateAll : Cond.instanceMethod y_re_relateAll ∈ lw_good := ga_7 28 rfl rfl
theorem se_re_relateAll : Cond.selects R_re y_re_relateAll y_re_relateAll ∈ lw_good := good_sel (q := (y_re_relateAll, 14)) (pv_6 (List.mem_of_getElem? (i := 12) rfl)) rfl
theorem cd_wo_tellRelated : Cond.code y_wo_tellRelated b_wo_tellRelated 5 (some .boolean) ∈ lw_good := ga_7 33 rfl rfl
theorem im_wo_tellRelated : Cond.instanceMethod y_wo_tellRelated ∈ lw_good := ga_7 31 rfl rfl
theorem se_wo_tellRelated : Cond.selects R_wo y_wo_tellRelated y_wo_tellRelated ∈ lw_good := ga_7 32 rfl rfl
theorem cd_wo_isRelated : Cond.code y_wo_isRelated b_wo_isRelated 4 (some .boolean) ∈ lw_good := ga_7 37 rfl rfl
theorem im_wo_isRelated : Cond.instanceMethod y_wo_isRelated ∈ lw_good := ga_7 35 rfl rfl
theorem se_wo_isRelated : Cond.selects R_wo y_wo_isRelated y_wo_isRelated ∈ lw_good := ga_7 36 rfl rfl
theorem cd_wo_placePlayer : Cond.code y_wo_placePlayer b_wo_placePlayer 2 none ∈ lw_good := ga_7 41 rfl rfl
theorem im_wo_placePlayer : Cond.instanceMethod y_wo_placePlayer ∈ lw_good := ga_7 39 rfl rfl
theorem se_wo_placePlayer : Cond.selects R_wo y_wo_placePlayer y_wo_placePlayer ∈ lw_good := ga_7 40 rfl rfl
theorem cd_bo_putInOrder : Cond.code y_bo_putInOrder b_bo_putInOrder 3 none ∈ lw_good := ga_7 46 rfl rfl
theorem im_bo_putInOrder : Cond.instanceMethod y_bo_putInOrder ∈ lw_good := ga_7 44 rfl rfl
theorem se_bo_putInOrder : Cond.selects R_bo y_bo_putInOrder y_bo_putInOrder ∈ lw_good := ga_7 45 rfl rfl
theorem cd_bo_comesFirst : Cond.code y_bo_comesFirst b_bo_comesFirst 5 (some .boolean) ∈ lw_good := ga_7 50 rfl rfl
theorem im_bo_comesFirst : Cond.instanceMethod y_bo_comesFirst ∈ lw_good := ga_7 49 rfl rfl
theorem se_bo_comesFirst : Cond.selects R_bo y_bo_comesFirst y_bo_comesFirst ∈ lw_good := good_sel (q := (y_bo_comesFirst, 9)) (pv_6 (List.mem_of_getElem? (i := 13) rfl)) rfl
theorem cd_bo_rank : Cond.code y_bo_rank b_bo_rank 1 (some .int) ∈ lw_good := ga_7 53 rfl rfl
theorem st_bo_rank : Cond.static y_bo_rank ∈ lw_good := ga_7 52 rfl rfl
theorem cd_vo_kindsAbove : Cond.code y_vo_kindsAbove b_vo_kindsAbove 4 (some .int) ∈ lw_good := ga_7 57 rfl rfl
theorem im_vo_kindsAbove : Cond.instanceMethod y_vo_kindsAbove ∈ lw_good := ga_7 55 rfl rfl
theorem se_vo_kindsAbove : Cond.selects R_vo y_vo_kindsAbove y_vo_kindsAbove ∈ lw_good := ga_7 56 rfl rfl
theorem cd_rs_fault : Cond.code y_rs_fault b_rs_fault 1 (some .int) ∈ lw_good := ga_7 61 rfl rfl
theorem im_rs_fault : Cond.instanceMethod y_rs_fault ∈ lw_good := ga_7 59 rfl rfl
theorem se_rs_fault : Cond.selects R_rs y_rs_fault y_rs_fault ∈ lw_good := ga_7 60 rfl rfl
theorem cd_rs_told : Cond.code y_rs_told b_rs_told 2 (some .int) ∈ lw_good := ga_7 65 rfl rfl
theorem im_rs_told : Cond.instanceMethod y_rs_told ∈ lw_good := ga_7 63 rfl rfl
theorem se_rs_told : Cond.selects R_rs y_rs_told y_rs_told ∈ lw_good := ga_7 64 rfl rfl
theorem cd_rs_name : Cond.code y_rs_name b_rs_name 5 (some .int) ∈ lw_good := ga_7 70 rfl rfl
theorem im_rs_name : Cond.instanceMethod y_rs_name ∈ lw_good := ga_7 68 rfl rfl
theorem se_rs_name : Cond.selects R_rs y_rs_name y_rs_name ∈ lw_good := ga_7 69 rfl rfl
theorem cd_vo_nameByte : Cond.code y_vo_nameByte b_vo_nameByte 13 (some .int) ∈ lw_good := ga_7 74 rfl rfl
theorem im_vo_nameByte : Cond.instanceMethod y_vo_nameByte ∈ lw_good := ga_7 72 rfl rfl
theorem se_vo_nameByte : Cond.selects R_vo y_vo_nameByte y_vo_nameByte ∈ lw_good := ga_7 73 rfl rfl
theorem cd_rs_kind : Cond.code y_rs_kind b_rs_kind 3 (some .int) ∈ lw_good := ga_7 78 rfl rfl
theorem im_rs_kind : Cond.instanceMethod y_rs_kind ∈ lw_good := ga_7 76 rfl rfl
theorem se_rs_kind : Cond.selects R_rs y_rs_kind y_rs_kind ∈ lw_good := ga_7 77 rfl rfl
theorem cd_vo_adjectivesOf : Cond.code y_vo_adjectivesOf b_vo_adjectivesOf 4 (some .int) ∈ lw_good := ga_7 89 rfl rfl
theorem im_vo_adjectivesOf : Cond.instanceMethod y_vo_adjectivesOf ∈ lw_good := ga_7 87 rfl rfl
theorem se_vo_adjectivesOf : Cond.selects R_vo y_vo_adjectivesOf y_vo_adjectivesOf ∈ lw_good := ga_7 88 rfl rfl
theorem cd_rs_object : Cond.code y_rs_object b_rs_object 3 (some .int) ∈ lw_good := ga_7 94 rfl rfl
theorem im_rs_object : Cond.instanceMethod y_rs_object ∈ lw_good := ga_7 92 rfl rfl
theorem se_rs_object : Cond.selects R_rs y_rs_object y_rs_object ∈ lw_good := ga_7 93 rfl rfl
theorem cd_rs_isObject : Cond.code y_rs_isObject b_rs_isObject 2 (some .boolean) ∈ lw_good := ga_7 98 rfl rfl
theorem im_rs_isObject : Cond.instanceMethod y_rs_isObject ∈ lw_good := ga_7 97 rfl rfl
theorem se_rs_isObject : Cond.selects R_rs y_rs_isObject y_rs_isObject ∈ lw_good := good_sel (q := (y_rs_isObject, 12)) (pv_6 (List.mem_of_getElem? (i := 14) rfl)) rfl
theorem cd_rs_is : Cond.code y_rs_is b_rs_is 3 (some .int) ∈ lw_good := ga_7 102 rfl rfl
theorem im_rs_is : Cond.instanceMethod y_rs_is ∈ lw_good := ga_7 100 rfl rfl
theorem se_rs_is : Cond.selects R_rs y_rs_is y_rs_is ∈ lw_good := ga_7 101 rfl rfl
theorem cd_tu_adjectiveHolds : Cond.code y_tu_adjectiveHolds b_tu_adjectiveHolds 7 (some .boolean) ∈ lw_good := ga_7 107 rfl rfl
theorem im_tu_adjectiveHolds : Cond.instanceMethod y_tu_adjectiveHolds ∈ lw_good := ga_7 105 rfl rfl
theorem se_tu_adjectiveHolds : Cond.selects R_tu y_tu_adjectiveHolds y_tu_adjectiveHolds ∈ lw_good := ga_7 106 rfl rfl
theorem cd_wo_hasAdjective : Cond.code y_wo_hasAdjective b_wo_hasAdjective 6 (some .boolean) ∈ lw_good := ga_7 111 rfl rfl
theorem im_wo_hasAdjective : Cond.instanceMethod y_wo_hasAdjective ∈ lw_good := ga_7 109 rfl rfl
theorem se_wo_hasAdjective : Cond.selects R_wo y_wo_hasAdjective y_wo_hasAdjective ∈ lw_good := ga_7 110 rfl rfl
theorem cd_tu_forget : Cond.code y_tu_forget b_tu_forget 3 none ∈ lw_good := ga_7 116 rfl rfl
theorem im_tu_forget : Cond.instanceMethod y_tu_forget ∈ lw_good := ga_7 115 rfl rfl
theorem se_tu_forget : Cond.selects R_tu y_tu_forget y_tu_forget ∈ lw_good := good_sel (q := (y_tu_forget, 9)) (pv_6 (List.mem_of_getElem? (i := 15) rfl)) rfl
theorem cd_bo_clauseAt : Cond.code y_bo_clauseAt b_bo_clauseAt 2 (some (.object "RuleSentences$Clause")) ∈ lw_good := ga_7 120 rfl rfl
theorem im_bo_clauseAt : Cond.instanceMethod y_bo_clauseAt ∈ lw_good := ga_7 118 rfl rfl
theorem se_bo_clauseAt : Cond.selects R_bo y_bo_clauseAt y_bo_clauseAt ∈ lw_good := ga_7 119 rfl rfl
theorem cd_tu_holds : Cond.code y_tu_holds b_tu_holds 7 (some .boolean) ∈ lw_good := ga_7 124 rfl rfl
theorem im_tu_holds : Cond.instanceMethod y_tu_holds ∈ lw_good := ga_7 123 rfl rfl
theorem se_tu_holds : Cond.selects R_tu y_tu_holds y_tu_holds ∈ lw_good := good_sel (q := (y_tu_holds, 9)) (pv_7 (List.mem_of_getElem? (i := 0) rfl)) rfl
theorem cd_tu_whoIs : Cond.code y_tu_whoIs b_tu_whoIs 2 (some .int) ∈ lw_good := ga_7 127 rfl rfl
theorem st_tu_whoIs : Cond.static y_tu_whoIs ∈ lw_good := ga_7 126 rfl rfl
theorem cd_wo_valueOf : Cond.code y_wo_valueOf b_wo_valueOf 5 (some .int) ∈ lw_good := ga_7 132 rfl rfl
theorem im_wo_valueOf : Cond.instanceMethod y_wo_valueOf ∈ lw_good := ga_7 130 rfl rfl
theorem se_wo_valueOf : Cond.selects R_wo y_wo_valueOf y_wo_valueOf ∈ lw_good := ga_7 131 rfl rfl
theorem cd_wo_tellingRow : Cond.code y_wo_tellingRow b_wo_tellingRow 5 (some .int) ∈ lw_good := ga_7 136 rfl rfl
theorem im_wo_tellingRow : Cond.instanceMethod y_wo_tellingRow ∈ lw_good := ga_7 135 rfl rfl
theorem se_wo_tellingRow : Cond.selects R_wo y_wo_tellingRow y_wo_tellingRow ∈ lw_good := good_sel (q := (y_wo_tellingRow, 13)) (pv_7 (List.mem_of_getElem? (i := 1) rfl)) rfl
theorem cd_vo_firstValueOf : Cond.code y_vo_firstValueOf b_vo_firstValueOf 3 (some .int) ∈ lw_good := ga_7 140 rfl rfl
theorem im_vo_firstValueOf : Cond.instanceMethod y_vo_firstValueOf ∈ lw_good := ga_7 138 rfl rfl
theorem se_vo_firstValueOf : Cond.selects R_vo y_vo_firstValueOf y_vo_firstValueOf ∈ lw_good := ga_7 139 rfl rfl
theorem cd_wo_lengthOf : Cond.code y_wo_lengthOf b_wo_lengthOf 4 (some .int) ∈ lw_good := ga_7 144 rfl rfl
theorem im_wo_lengthOf : Cond.instanceMethod y_wo_lengthOf ∈ lw_good := ga_7 142 rfl rfl
theorem se_wo_lengthOf : Cond.selects R_wo y_wo_lengthOf y_wo_lengthOf ∈ lw_good := ga_7 143 rfl rfl
theorem cd_rs_property : Cond.code y_rs_property b_rs_property 3 (some .int) ∈ lw_good := ga_7 150 rfl rfl
theorem im_rs_property : Cond.instanceMethod y_rs_property ∈ lw_good := ga_7 148 rfl rfl
theorem se_rs_property : Cond.selects R_rs y_rs_property y_rs_property ∈ lw_good := ga_7 149 rfl rfl
theorem cd_rs_hasProperty : Cond.code y_rs_hasProperty b_rs_hasProperty 3 (some .boolean) ∈ lw_good := ga_7 154 rfl rfl
theorem im_rs_hasProperty : Cond.instanceMethod y_rs_hasProperty ∈ lw_good := ga_7 153 rfl rfl
theorem se_rs_hasProperty : Cond.selects R_rs y_rs_hasProperty y_rs_hasProperty ∈ lw_good := good_sel (q := (y_rs_hasProperty, 12)) (pv_7 (List.mem_of_getElem? (i := 2) rfl)) rfl
theorem cd_rs_letter : Cond.code y_rs_letter b_rs_letter 4 (some .int) ∈ lw_good := ga_7 160 rfl rfl
theorem im_rs_letter : Cond.instanceMethod y_rs_letter ∈ lw_good := ga_7 158 rfl rfl
theorem se_rs_letter : Cond.selects R_rs y_rs_letter y_rs_letter ∈ lw_good := ga_7 159 rfl rfl
theorem cd_rs_leads : Cond.code y_rs_leads b_rs_leads 3 (some .int) ∈ lw_good := ga_7 164 rfl rfl
theorem im_rs_leads : Cond.instanceMethod y_rs_leads ∈ lw_good := ga_7 162 rfl rfl
theorem se_rs_leads : Cond.selects R_rs y_rs_leads y_rs_leads ∈ lw_good := ga_7 163 rfl rfl
theorem cd_wo_roomBehind : Cond.code y_wo_roomBehind b_wo_roomBehind 6 (some .int) ∈ lw_good := ga_7 168 rfl rfl
theorem im_wo_roomBehind : Cond.instanceMethod y_wo_roomBehind ∈ lw_good := ga_7 166 rfl rfl
theorem se_wo_roomBehind : Cond.selects R_wo y_wo_roomBehind y_wo_roomBehind ∈ lw_good := ga_7 167 rfl rfl
theorem cd_rs_related : Cond.code y_rs_related b_rs_related 4 (some .boolean) ∈ lw_good := ga_7 172 rfl rfl
theorem im_rs_related : Cond.instanceMethod y_rs_related ∈ lw_good := ga_7 170 rfl rfl
theorem se_rs_related : Cond.selects R_rs y_rs_related y_rs_related ∈ lw_good := ga_7 171 rfl rfl
theorem cd_rs_rule : Cond.code y_rs_rule b_rs_rule 3 (some .int) ∈ lw_good := ga_7 177 rfl rfl
theorem im_rs_rule : Cond.instanceMethod y_rs_rule ∈ lw_good := ga_7 175 rfl rfl
theorem se_rs_rule : Cond.selects R_rs y_rs_rule y_rs_rule ∈ lw_good := ga_7 176 rfl rfl
theorem cd_bo_placeInOrder : Cond.code y_bo_placeInOrder b_bo_placeInOrder 4 (some .int) ∈ lw_good := ga_7 181 rfl rfl
theorem im_bo_placeInOrder : Cond.instanceMethod y_bo_placeInOrder ∈ lw_good := ga_7 179 rfl rfl
theorem se_bo_placeInOrder : Cond.selects R_bo y_bo_placeInOrder y_bo_placeInOrder ∈ lw_good := ga_7 180 rfl rfl
theorem cd_rs_act : Cond.code y_rs_act b_rs_act 5 (some .int) ∈ lw_good := ga_7 185 rfl rfl
theorem im_rs_act : Cond.instanceMethod y_rs_act ∈ lw_good := ga_7 183 rfl rfl
theorem se_rs_act : Cond.selects R_rs y_rs_act y_rs_act ∈ lw_good := ga_7 184 rfl rfl
theorem cd_tu_takeTurn : Cond.code y_tu_takeTurn b_tu_takeTurn 4 (some .int) ∈ lw_good := ga_7 189 rfl rfl
theorem im_tu_takeTurn : Cond.instanceMethod y_tu_takeTurn ∈ lw_good := ga_7 187 rfl rfl
theorem se_tu_takeTurn : Cond.selects R_tu y_tu_takeTurn y_tu_takeTurn ∈ lw_good := ga_7 188 rfl rfl
theorem cd_tu_doAction : Cond.code y_tu_doAction b_tu_doAction 4 (some .int) ∈ lw_good := ga_7 193 rfl rfl
theorem im_tu_doAction : Cond.instanceMethod y_tu_doAction ∈ lw_good := ga_7 192 rfl rfl
theorem se_tu_doAction : Cond.selects R_tu y_tu_doAction y_tu_doAction ∈ lw_good := good_sel (q := (y_tu_doAction, 9)) (pv_7 (List.mem_of_getElem? (i := 3) rfl)) rfl
theorem cd_tu_runRules : Cond.code y_tu_runRules b_tu_runRules 11 (some .boolean) ∈ lw_good := ga_7 197 rfl rfl
theorem im_tu_runRules : Cond.instanceMethod y_tu_runRules ∈ lw_good := ga_7 196 rfl rfl
theorem se_tu_runRules : Cond.selects R_tu y_tu_runRules y_tu_runRules ∈ lw_good := good_sel (q := (y_tu_runRules, 9)) (pv_7 (List.mem_of_getElem? (i := 4) rfl)) rfl
theorem cd_tu_applies : Cond.code y_tu_applies b_tu_applies 5 (some .boolean) ∈ lw_good := ga_7 201 rfl rfl
theorem im_tu_applies : Cond.instanceMethod y_tu_applies ∈ lw_good := ga_7 200 rfl rfl
theorem se_tu_applies : Cond.selects R_tu y_tu_applies y_tu_applies ∈ lw_good := good_sel (q := (y_tu_applies, 9)) (pv_7 (List.mem_of_getElem? (i := 5) rfl)) rfl
theorem cd_tu_sayText : Cond.code y_tu_sayText b_tu_sayText 7 none ∈ lw_good := ga_7 206 rfl rfl
theorem im_tu_sayText : Cond.instanceMethod y_tu_sayText ∈ lw_good := ga_7 205 rfl rfl
theorem se_tu_sayText : Cond.selects R_tu y_tu_sayText y_tu_sayText ∈ lw_good := good_sel (q := (y_tu_sayText, 9)) (pv_7 (List.mem_of_getElem? (i := 6) rfl)) rfl
theorem cd_bo_thingOfInsert : Cond.code y_bo_thingOfInsert b_bo_thingOfInsert 2 (some .int) ∈ lw_good := ga_7 210 rfl rfl
theorem im_bo_thingOfInsert : Cond.instanceMethod y_bo_thingOfInsert ∈ lw_good := ga_7 208 rfl rfl
theorem se_bo_thingOfInsert : Cond.selects R_bo y_bo_thingOfInsert y_bo_thingOfInsert ∈ lw_good := ga_7 209 rfl rfl
theorem cd_bo_propertyOfInsert : Cond.code y_bo_propertyOfInsert b_bo_propertyOfInsert 2 (some .int) ∈ lw_good := ga_7 214 rfl rfl
theorem im_bo_propertyOfInsert : Cond.instanceMethod y_bo_propertyOfInsert ∈ lw_good := ga_7 212 rfl rfl
theorem se_bo_propertyOfInsert : Cond.selects R_bo y_bo_propertyOfInsert y_bo_propertyOfInsert ∈ lw_good := ga_7 213 rfl rfl
theorem cd_tu_writeInsert : Cond.code y_tu_writeInsert b_tu_writeInsert 5 none ∈ lw_good := ga_7 218 rfl rfl
theorem im_tu_writeInsert : Cond.instanceMethod y_tu_writeInsert ∈ lw_good := ga_7 217 rfl rfl
theorem se_tu_writeInsert : Cond.selects R_tu y_tu_writeInsert y_tu_writeInsert ∈ lw_good := good_sel (q := (y_tu_writeInsert, 9)) (pv_7 (List.mem_of_getElem? (i := 7) rfl)) rfl
theorem cd_tu_writeName : Cond.code y_tu_writeName b_tu_writeName 5 none ∈ lw_good := ga_7 222 rfl rfl
theorem im_tu_writeName : Cond.instanceMethod y_tu_writeName ∈ lw_good := ga_7 221 rfl rfl
theorem se_tu_writeName : Cond.selects R_tu y_tu_writeName y_tu_writeName ∈ lw_good := good_sel (q := (y_tu_writeName, 9)) (pv_7 (List.mem_of_getElem? (i := 8) rfl)) rfl
theorem cd_tu_write : Cond.code y_tu_write b_tu_write 2 none ∈ lw_good := ga_7 227 rfl rfl
theorem im_tu_write : Cond.instanceMethod y_tu_write ∈ lw_good := ga_7 226 rfl rfl
theorem se_tu_write : Cond.selects R_tu y_tu_write y_tu_write ∈ lw_good := good_sel (q := (y_tu_write, 9)) (pv_7 (List.mem_of_getElem? (i := 9) rfl)) rfl
theorem cd_tu_writeText : Cond.code y_tu_writeText b_tu_writeText 4 none ∈ lw_good := ga_7 231 rfl rfl
theorem im_tu_writeText : Cond.instanceMethod y_tu_writeText ∈ lw_good := ga_7 230 rfl rfl
theorem se_tu_writeText : Cond.selects R_tu y_tu_writeText y_tu_writeText ∈ lw_good := good_sel (q := (y_tu_writeText, 9)) (pv_7 (List.mem_of_getElem? (i := 10) rfl)) rfl
theorem cd_tu_writeNumber : Cond.code y_tu_writeNumber b_tu_writeNumber 4 none ∈ lw_good := ga_7 235 rfl rfl
theorem im_tu_writeNumber : Cond.instanceMethod y_tu_writeNumber ∈ lw_good := ga_7 234 rfl rfl
theorem se_tu_writeNumber : Cond.selects R_tu y_tu_writeNumber y_tu_writeNumber ∈ lw_good := good_sel (q := (y_tu_writeNumber, 9)) (pv_7 (List.mem_of_getElem? (i := 11) rfl)) rfl
theorem cd_tu_perform : Cond.code y_tu_perform b_tu_perform 8 none ∈ lw_good := ga_8 2 rfl rfl
theorem im_tu_perform : Cond.instanceMethod y_tu_perform ∈ lw_good := ga_8 1 rfl rfl
theorem se_tu_perform : Cond.selects R_tu y_tu_perform y_tu_perform ∈ lw_good := good_sel (q := (y_tu_perform, 9)) (pv_7 (List.mem_of_getElem? (i := 12) rfl)) rfl
theorem cd_wo_relateNow : Cond.code y_wo_relateNow b_wo_relateNow 5 none ∈ lw_good := ga_8 8 rfl rfl
theorem im_wo_relateNow : Cond.instanceMethod y_wo_relateNow ∈ lw_good := ga_8 6 rfl rfl
theorem se_wo_relateNow : Cond.selects R_wo y_wo_relateNow y_wo_relateNow ∈ lw_good := ga_8 7 rfl rfl
theorem cd_tu_move : Cond.code y_tu_move b_tu_move 4 none ∈ lw_good := ga_8 12 rfl rfl
theorem im_tu_move : Cond.instanceMethod y_tu_move ∈ lw_good := ga_8 11 rfl rfl
theorem se_tu_move : Cond.selects R_tu y_tu_move y_tu_move ∈ lw_good := good_sel (q := (y_tu_move, 9)) (pv_7 (List.mem_of_getElem? (i := 13) rfl)) rfl
theorem cd_tu_succeeds : Cond.code y_tu_succeeds b_tu_succeeds 3 (some .boolean) ∈ lw_good := ga_8 26 rfl rfl
theorem im_tu_succeeds : Cond.instanceMethod y_tu_succeeds ∈ lw_good := ga_8 25 rfl rfl
theorem se_tu_succeeds : Cond.selects R_tu y_tu_succeeds y_tu_succeeds ∈ lw_good := good_sel (q := (y_tu_succeeds, 9)) (pv_7 (List.mem_of_getElem? (i := 14) rfl)) rfl
theorem cd_tu_take : Cond.code y_tu_take b_tu_take 2 (some .boolean) ∈ lw_good := ga_8 30 rfl rfl
theorem im_tu_take : Cond.instanceMethod y_tu_take ∈ lw_good := ga_8 29 rfl rfl
theorem se_tu_take : Cond.selects R_tu y_tu_take y_tu_take ∈ lw_good := good_sel (q := (y_tu_take, 9)) (pv_7 (List.mem_of_getElem? (i := 15) rfl)) rfl
theorem cd_tu_playerHas : Cond.code y_tu_playerHas b_tu_playerHas 2 (some .boolean) ∈ lw_good := ga_8 34 rfl rfl
theorem im_tu_playerHas : Cond.instanceMethod y_tu_playerHas ∈ lw_good := ga_8 33 rfl rfl
theorem se_tu_playerHas : Cond.selects R_tu y_tu_playerHas y_tu_playerHas ∈ lw_good := good_sel (q := (y_tu_playerHas, 9)) (pv_8 (List.mem_of_getElem? (i := 0) rfl)) rfl
theorem cd_tu_go : Cond.code y_tu_go b_tu_go 4 (some .boolean) ∈ lw_good := ga_8 38 rfl rfl
theorem im_tu_go : Cond.instanceMethod y_tu_go ∈ lw_good := ga_8 37 rfl rfl
theorem se_tu_go : Cond.selects R_tu y_tu_go y_tu_go ∈ lw_good := good_sel (q := (y_tu_go, 9)) (pv_8 (List.mem_of_getElem? (i := 1) rfl)) rfl
theorem cd_rs_command : Cond.code y_rs_command b_rs_command 3 (some .int) ∈ lw_good := ga_8 43 rfl rfl
theorem im_rs_command : Cond.instanceMethod y_rs_command ∈ lw_good := ga_8 41 rfl rfl
theorem se_rs_command : Cond.selects R_rs y_rs_command y_rs_command ∈ lw_good := ga_8 42 rfl rfl
theorem cd_co_takeTyped : Cond.code y_co_takeTyped b_co_takeTyped 5 (some .boolean) ∈ lw_good := ga_8 47 rfl rfl
theorem im_co_takeTyped : Cond.instanceMethod y_co_takeTyped ∈ lw_good := ga_8 45 rfl rfl
theorem se_co_takeTyped : Cond.selects R_co y_co_takeTyped y_co_takeTyped ∈ lw_good := ga_8 46 rfl rfl
theorem cd_co_fits : Cond.code y_co_fits b_co_fits 5 (some .boolean) ∈ lw_good := ga_8 52 rfl rfl
theorem im_co_fits : Cond.instanceMethod y_co_fits ∈ lw_good := ga_8 50 rfl rfl
theorem se_co_fits : Cond.selects R_co y_co_fits y_co_fits ∈ lw_good := ga_8 51 rfl rfl
theorem cd_co_fitsGap : Cond.code y_co_fitsGap b_co_fitsGap 3 (some .boolean) ∈ lw_good := ga_8 56 rfl rfl
theorem im_co_fitsGap : Cond.instanceMethod y_co_fitsGap ∈ lw_good := ga_8 55 rfl rfl
theorem se_co_fitsGap : Cond.selects R_co y_co_fitsGap y_co_fitsGap ∈ lw_good := good_sel (q := (y_co_fitsGap, 14)) (pv_8 (List.mem_of_getElem? (i := 2) rfl)) rfl
theorem cd_rs_outs : Cond.code y_rs_outs b_rs_outs 1 (some .int) ∈ lw_good := ga_8 61 rfl rfl
theorem im_rs_outs : Cond.instanceMethod y_rs_outs ∈ lw_good := ga_8 59 rfl rfl
theorem se_rs_outs : Cond.selects R_rs y_rs_outs y_rs_outs ∈ lw_good := ga_8 60 rfl rfl
theorem cd_rs_out : Cond.code y_rs_out b_rs_out 2 (some .int) ∈ lw_good := ga_8 65 rfl rfl
theorem im_rs_out : Cond.instanceMethod y_rs_out ∈ lw_good := ga_8 63 rfl rfl
theorem se_rs_out : Cond.selects R_rs y_rs_out y_rs_out ∈ lw_good := ga_8 64 rfl rfl
theorem cd_rs_clear : Cond.code y_rs_clear b_rs_clear 2 (some .int) ∈ lw_good := ga_8 69 rfl rfl
theorem im_rs_clear : Cond.instanceMethod y_rs_clear ∈ lw_good := ga_8 67 rfl rfl
theorem se_rs_clear : Cond.selects R_rs y_rs_clear y_rs_clear ∈ lw_good := ga_8 68 rfl rfl
theorem cd_mo_keys : Cond.code y_mo_keys b_mo_keys 0 (some (.object "java/lang/String")) ∈ lw_good := ga_8 78 rfl rfl
theorem st_mo_keys : Cond.static y_mo_keys ∈ lw_good := ga_8 77 rfl rfl
theorem cd_mo_begin : Cond.code y_mo_begin b_mo_begin 2 none ∈ lw_good := ga_8 85 rfl rfl
theorem im_mo_begin : Cond.instanceMethod y_mo_begin ∈ lw_good := ga_8 84 rfl rfl
theorem se_mo_begin : Cond.selects R_mo y_mo_begin y_mo_begin ∈ lw_good := good_sel (q := (y_mo_begin, 166)) (pv_8 (List.mem_of_getElem? (i := 3) rfl)) rfl
theorem cd_mo_addKind : Cond.code y_mo_addKind b_mo_addKind 3 (some .int) ∈ lw_good := ga_8 89 rfl rfl
theorem im_mo_addKind : Cond.instanceMethod y_mo_addKind ∈ lw_good := ga_8 88 rfl rfl
theorem se_mo_addKind : Cond.selects R_mo y_mo_addKind y_mo_addKind ∈ lw_good := good_sel (q := (y_mo_addKind, 166)) (pv_8 (List.mem_of_getElem? (i := 4) rfl)) rfl
theorem cd_mo_tellWord : Cond.code y_mo_tellWord b_mo_tellWord 4 none ∈ lw_good := ga_8 98 rfl rfl
theorem im_mo_tellWord : Cond.instanceMethod y_mo_tellWord ∈ lw_good := ga_8 97 rfl rfl
theorem se_mo_tellWord : Cond.selects R_mo y_mo_tellWord y_mo_tellWord ∈ lw_good := good_sel (q := (y_mo_tellWord, 166)) (pv_8 (List.mem_of_getElem? (i := 5) rfl)) rfl
theorem cd_mo_packed : Cond.code y_mo_packed b_mo_packed 4 (some .long) ∈ lw_good := ga_8 101 rfl rfl
theorem st_mo_packed : Cond.static y_mo_packed ∈ lw_good := ga_8 100 rfl rfl
theorem cd_mo_tell : Cond.code y_mo_tell b_mo_tell 10 none ∈ lw_good := ga_8 105 rfl rfl
theorem im_mo_tell : Cond.instanceMethod y_mo_tell ∈ lw_good := ga_8 104 rfl rfl
theorem se_mo_tell : Cond.selects R_mo y_mo_tell y_mo_tell ∈ lw_good := good_sel (q := (y_mo_tell, 166)) (pv_8 (List.mem_of_getElem? (i := 6) rfl)) rfl
theorem cd_mo_addAdjective : Cond.code y_mo_addAdjective b_mo_addAdjective 3 (some .int) ∈ lw_good := ga_8 116 rfl rfl
theorem im_mo_addAdjective : Cond.instanceMethod y_mo_addAdjective ∈ lw_good := ga_8 115 rfl rfl
theorem se_mo_addAdjective : Cond.selects R_mo y_mo_addAdjective y_mo_addAdjective ∈ lw_good := good_sel (q := (y_mo_addAdjective, 166)) (pv_8 (List.mem_of_getElem? (i := 7) rfl)) rfl
theorem cd_mo_addObject : Cond.code y_mo_addObject b_mo_addObject 3 (some .int) ∈ lw_good := ga_8 123 rfl rfl
theorem im_mo_addObject : Cond.instanceMethod y_mo_addObject ∈ lw_good := ga_8 122 rfl rfl
theorem se_mo_addObject : Cond.selects R_mo y_mo_addObject y_mo_addObject ∈ lw_good := good_sel (q := (y_mo_addObject, 166)) (pv_8 (List.mem_of_getElem? (i := 8) rfl)) rfl
theorem cd_mo_addAction : Cond.code y_mo_addAction b_mo_addAction 2 (some .int) ∈ lw_good := ga_8 128 rfl rfl
theorem im_mo_addAction : Cond.instanceMethod y_mo_addAction ∈ lw_good := ga_8 127 rfl rfl
theorem se_mo_addAction : Cond.selects R_mo y_mo_addAction y_mo_addAction ∈ lw_good := good_sel (q := (y_mo_addAction, 166)) (pv_8 (List.mem_of_getElem? (i := 9) rfl)) rfl
theorem cd_mo_direction : Cond.code y_mo_direction b_mo_direction 1 (some (.object "java/lang/String")) ∈ lw_good := ga_8 136 rfl rfl
theorem st_mo_direction : Cond.static y_mo_direction ∈ lw_good := ga_8 135 rfl rfl
theorem cd_mo_firstCommand : Cond.code y_mo_firstCommand b_mo_firstCommand 6 none ∈ lw_good := ga_8 147 rfl rfl
theorem im_mo_firstCommand : Cond.instanceMethod y_mo_firstCommand ∈ lw_good := ga_8 146 rfl rfl
theorem se_mo_firstCommand : Cond.selects R_mo y_mo_firstCommand y_mo_firstCommand ∈ lw_good := good_sel (q := (y_mo_firstCommand, 166)) (pv_8 (List.mem_of_getElem? (i := 10) rfl)) rfl
theorem cd_mo_feed : Cond.code y_mo_feed b_mo_feed 5 (some .int) ∈ lw_good := ga_10 175 rfl rfl
theorem im_mo_feed : Cond.instanceMethod y_mo_feed ∈ lw_good := ga_10 173 rfl rfl
theorem se_mo_feed : Cond.selects R_mo y_mo_feed y_mo_feed ∈ lw_good := ga_10 174 rfl rfl
theorem cd_mo_wipe : Cond.code y_mo_wipe b_mo_wipe 2 (some .int) ∈ lw_good := ga_10 179 rfl rfl
theorem im_mo_wipe : Cond.instanceMethod y_mo_wipe ∈ lw_good := ga_10 177 rfl rfl
theorem se_mo_wipe : Cond.selects R_mo y_mo_wipe y_mo_wipe ∈ lw_good := ga_10 178 rfl rfl
theorem cd_mo_read : Cond.code y_mo_read b_mo_read 2 (some .int) ∈ lw_good := ga_10 183 rfl rfl
theorem im_mo_read : Cond.instanceMethod y_mo_read ∈ lw_good := ga_10 181 rfl rfl
theorem se_mo_read : Cond.selects R_mo y_mo_read y_mo_read ∈ lw_good := ga_10 182 rfl rfl
theorem cd_mo_cut : Cond.code y_mo_cut b_mo_cut 7 none ∈ lw_good := ga_10 190 rfl rfl
theorem im_mo_cut : Cond.instanceMethod y_mo_cut ∈ lw_good := ga_10 189 rfl rfl
theorem se_mo_cut : Cond.selects R_mo y_mo_cut y_mo_cut ∈ lw_good := good_sel (q := (y_mo_cut, 166)) (pv_8 (List.mem_of_getElem? (i := 11) rfl)) rfl
theorem cd_mo_blanks : Cond.code y_mo_blanks b_mo_blanks 5 (some .int) ∈ lw_good := ga_10 194 rfl rfl
theorem im_mo_blanks : Cond.instanceMethod y_mo_blanks ∈ lw_good := ga_10 193 rfl rfl
theorem se_mo_blanks : Cond.selects R_mo y_mo_blanks y_mo_blanks ∈ lw_good := good_sel (q := (y_mo_blanks, 166)) (pv_8 (List.mem_of_getElem? (i := 12) rfl)) rfl
theorem cd_mo_isLetter : Cond.code y_mo_isLetter b_mo_isLetter 1 (some .boolean) ∈ lw_good := ga_10 197 rfl rfl
theorem st_mo_isLetter : Cond.static y_mo_isLetter ∈ lw_good := ga_10 196 rfl rfl
theorem cd_mo_small : Cond.code y_mo_small b_mo_small 1 (some .int) ∈ lw_good := ga_10 200 rfl rfl
theorem st_mo_small : Cond.static y_mo_small ∈ lw_good := ga_10 199 rfl rfl
theorem cd_mo_in : Cond.code y_mo_in b_mo_in 3 (some .boolean) ∈ lw_good := ga_10 203 rfl rfl
theorem st_mo_in : Cond.static y_mo_in ∈ lw_good := ga_10 202 rfl rfl
theorem cd_mo_wordOf : Cond.code y_mo_wordOf b_mo_wordOf 6 (some .long) ∈ lw_good := ga_10 206 rfl rfl
theorem st_mo_wordOf : Cond.static y_mo_wordOf ∈ lw_good := ga_10 205 rfl rfl
theorem cd_mo_keyOf : Cond.code y_mo_keyOf b_mo_keyOf 4 (some .int) ∈ lw_good := ga_10 210 rfl rfl
theorem im_mo_keyOf : Cond.instanceMethod y_mo_keyOf ∈ lw_good := ga_10 209 rfl rfl
theorem se_mo_keyOf : Cond.selects R_mo y_mo_keyOf y_mo_keyOf ∈ lw_good := good_sel (q := (y_mo_keyOf, 166)) (pv_8 (List.mem_of_getElem? (i := 13) rfl)) rfl
theorem cd_mo_readStory : Cond.code y_mo_readStory b_mo_readStory 4 none ∈ lw_good := ga_10 216 rfl rfl
theorem im_mo_readStory : Cond.instanceMethod y_mo_readStory ∈ lw_good := ga_10 215 rfl rfl
theorem se_mo_readStory : Cond.selects R_mo y_mo_readStory y_mo_readStory ∈ lw_good := good_sel (q := (y_mo_readStory, 166)) (pv_8 (List.mem_of_getElem? (i := 14) rfl)) rfl
theorem cd_mo_failed : Cond.code y_mo_failed b_mo_failed 3 none ∈ lw_good := ga_10 220 rfl rfl
theorem im_mo_failed : Cond.instanceMethod y_mo_failed ∈ lw_good := ga_10 219 rfl rfl
theorem se_mo_failed : Cond.selects R_mo y_mo_failed y_mo_failed ∈ lw_good := good_sel (q := (y_mo_failed, 166)) (pv_8 (List.mem_of_getElem? (i := 15) rfl)) rfl
theorem cd_mo_oddOf : Cond.code y_mo_oddOf b_mo_oddOf 3 (some .int) ∈ lw_good := ga_10 224 rfl rfl
theorem im_mo_oddOf : Cond.instanceMethod y_mo_oddOf ∈ lw_good := ga_10 223 rfl rfl
theorem se_mo_oddOf : Cond.selects R_mo y_mo_oddOf y_mo_oddOf ∈ lw_good := good_sel (q := (y_mo_oddOf, 166)) (pv_9 (List.mem_of_getElem? (i := 0) rfl)) rfl
theorem cd_mo_sentence : Cond.code y_mo_sentence b_mo_sentence 2 none ∈ lw_good := ga_10 228 rfl rfl
theorem im_mo_sentence : Cond.instanceMethod y_mo_sentence ∈ lw_good := ga_10 227 rfl rfl
theorem se_mo_sentence : Cond.selects R_mo y_mo_sentence y_mo_sentence ∈ lw_good := good_sel (q := (y_mo_sentence, 166)) (pv_9 (List.mem_of_getElem? (i := 1) rfl)) rfl
theorem cd_mo_partOne : Cond.code y_mo_partOne b_mo_partOne 1 none ∈ lw_good := ga_10 232 rfl rfl
theorem im_mo_partOne : Cond.instanceMethod y_mo_partOne ∈ lw_good := ga_10 231 rfl rfl
theorem se_mo_partOne : Cond.selects R_mo y_mo_partOne y_mo_partOne ∈ lw_good := good_sel (q := (y_mo_partOne, 166)) (pv_9 (List.mem_of_getElem? (i := 2) rfl)) rfl
theorem cd_mo_take : Cond.code y_mo_take b_mo_take 2 none ∈ lw_good := ga_10 236 rfl rfl
theorem im_mo_take : Cond.instanceMethod y_mo_take ∈ lw_good := ga_10 235 rfl rfl
theorem se_mo_take : Cond.selects R_mo y_mo_take y_mo_take ∈ lw_good := good_sel (q := (y_mo_take, 166)) (pv_9 (List.mem_of_getElem? (i := 3) rfl)) rfl
theorem cd_mo_isNext : Cond.code y_mo_isNext b_mo_isNext 2 (some .boolean) ∈ lw_good := ga_11 0 rfl rfl
theorem im_mo_isNext : Cond.instanceMethod y_mo_isNext ∈ lw_good := ga_10 239 rfl rfl
theorem se_mo_isNext : Cond.selects R_mo y_mo_isNext y_mo_isNext ∈ lw_good := good_sel (q := (y_mo_isNext, 166)) (pv_9 (List.mem_of_getElem? (i := 4) rfl)) rfl
theorem cd_mo_odd : Cond.code y_mo_odd b_mo_odd 1 none ∈ lw_good := ga_11 4 rfl rfl
theorem im_mo_odd : Cond.instanceMethod y_mo_odd ∈ lw_good := ga_11 3 rfl rfl
theorem se_mo_odd : Cond.selects R_mo y_mo_odd y_mo_odd ∈ lw_good := good_sel (q := (y_mo_odd, 166)) (pv_9 (List.mem_of_getElem? (i := 5) rfl)) rfl
theorem cd_mo_run : Cond.code y_mo_run b_mo_run 1 (some .int) ∈ lw_good := ga_11 8 rfl rfl
theorem im_mo_run : Cond.instanceMethod y_mo_run ∈ lw_good := ga_11 7 rfl rfl
theorem se_mo_run : Cond.selects R_mo y_mo_run y_mo_run ∈ lw_good := good_sel (q := (y_mo_run, 166)) (pv_9 (List.mem_of_getElem? (i := 6) rfl)) rfl
theorem cd_mo_partTwo : Cond.code y_mo_partTwo b_mo_partTwo 1 none ∈ lw_good := ga_11 12 rfl rfl
theorem im_mo_partTwo : Cond.instanceMethod y_mo_partTwo ∈ lw_good := ga_11 11 rfl rfl
theorem se_mo_partTwo : Cond.selects R_mo y_mo_partTwo y_mo_partTwo ∈ lw_good := good_sel (q := (y_mo_partTwo, 166)) (pv_9 (List.mem_of_getElem? (i := 7) rfl)) rfl
theorem cd_mo_art : Cond.code y_mo_art b_mo_art 1 none ∈ lw_good := ga_11 16 rfl rfl
theorem im_mo_art : Cond.instanceMethod y_mo_art ∈ lw_good := ga_11 15 rfl rfl
theorem se_mo_art : Cond.selects R_mo y_mo_art y_mo_art ∈ lw_good := good_sel (q := (y_mo_art, 166)) (pv_9 (List.mem_of_getElem? (i := 8) rfl)) rfl
theorem cd_mo_look : Cond.code y_mo_look b_mo_look 1 (some .int) ∈ lw_good := ga_11 20 rfl rfl
theorem im_mo_look : Cond.instanceMethod y_mo_look ∈ lw_good := ga_11 19 rfl rfl
theorem se_mo_look : Cond.selects R_mo y_mo_look y_mo_look ∈ lw_good := good_sel (q := (y_mo_look, 166)) (pv_9 (List.mem_of_getElem? (i := 9) rfl)) rfl
theorem cd_mo_isArt : Cond.code y_mo_isArt b_mo_isArt 1 (some .boolean) ∈ lw_good := ga_11 23 rfl rfl
theorem st_mo_isArt : Cond.static y_mo_isArt ∈ lw_good := ga_11 22 rfl rfl
theorem cd_mo_tests : Cond.code y_mo_tests b_mo_tests 1 none ∈ lw_good := ga_11 27 rfl rfl
theorem im_mo_tests : Cond.instanceMethod y_mo_tests ∈ lw_good := ga_11 26 rfl rfl
theorem se_mo_tests : Cond.selects R_mo y_mo_tests y_mo_tests ∈ lw_good := good_sel (q := (y_mo_tests, 166)) (pv_9 (List.mem_of_getElem? (i := 10) rfl)) rfl
theorem cd_mo_test : Cond.code y_mo_test b_mo_test 5 none ∈ lw_good := ga_11 31 rfl rfl
theorem im_mo_test : Cond.instanceMethod y_mo_test ∈ lw_good := ga_11 30 rfl rfl
theorem se_mo_test : Cond.selects R_mo y_mo_test y_mo_test ∈ lw_good := good_sel (q := (y_mo_test, 166)) (pv_9 (List.mem_of_getElem? (i := 11) rfl)) rfl
theorem cd_mo_endsTest : Cond.code y_mo_endsTest b_mo_endsTest 3 (some .boolean) ∈ lw_good := ga_11 35 rfl rfl
theorem im_mo_endsTest : Cond.instanceMethod y_mo_endsTest ∈ lw_good := ga_11 34 rfl rfl
theorem se_mo_endsTest : Cond.selects R_mo y_mo_endsTest y_mo_endsTest ∈ lw_good := good_sel (q := (y_mo_endsTest, 166)) (pv_9 (List.mem_of_getElem? (i := 12) rfl)) rfl
theorem cd_mo_beginsOf : Cond.code y_mo_beginsOf b_mo_beginsOf 3 (some .boolean) ∈ lw_good := ga_11 39 rfl rfl
theorem im_mo_beginsOf : Cond.instanceMethod y_mo_beginsOf ∈ lw_good := ga_11 38 rfl rfl
theorem se_mo_beginsOf : Cond.selects R_mo y_mo_beginsOf y_mo_beginsOf ∈ lw_good := good_sel (q := (y_mo_beginsOf, 166)) (pv_9 (List.mem_of_getElem? (i := 13) rfl)) rfl
theorem cd_mo_property : Cond.code y_mo_property b_mo_property 1 none ∈ lw_good := ga_11 43 rfl rfl
theorem im_mo_property : Cond.instanceMethod y_mo_property ∈ lw_good := ga_11 42 rfl rfl
theorem se_mo_property : Cond.selects R_mo y_mo_property y_mo_property ∈ lw_good := good_sel (q := (y_mo_property, 166)) (pv_9 (List.mem_of_getElem? (i := 14) rfl)) rfl
theorem cd_mo_thingOfTest : Cond.code y_mo_thingOfTest b_mo_thingOfTest 1 none ∈ lw_good := ga_11 47 rfl rfl
theorem im_mo_thingOfTest : Cond.instanceMethod y_mo_thingOfTest ∈ lw_good := ga_11 46 rfl rfl
theorem se_mo_thingOfTest : Cond.selects R_mo y_mo_thingOfTest y_mo_thingOfTest ∈ lw_good := good_sel (q := (y_mo_thingOfTest, 166)) (pv_9 (List.mem_of_getElem? (i := 15) rfl)) rfl
theorem cd_mo_thing : Cond.code y_mo_thing b_mo_thing 1 none ∈ lw_good := ga_11 51 rfl rfl
theorem im_mo_thing : Cond.instanceMethod y_mo_thing ∈ lw_good := ga_11 50 rfl rfl
theorem se_mo_thing : Cond.selects R_mo y_mo_thing y_mo_thing ∈ lw_good := good_sel (q := (y_mo_thing, 166)) (pv_10 (List.mem_of_getElem? (i := 0) rfl)) rfl
theorem cd_mo_name : Cond.code y_mo_name b_mo_name 1 (some .int) ∈ lw_good := ga_11 55 rfl rfl
theorem im_mo_name : Cond.instanceMethod y_mo_name ∈ lw_good := ga_11 54 rfl rfl
theorem se_mo_name : Cond.selects R_mo y_mo_name y_mo_name ∈ lw_good := good_sel (q := (y_mo_name, 166)) (pv_10 (List.mem_of_getElem? (i := 1) rfl)) rfl
theorem cd_mo_testedWhat : Cond.code y_mo_testedWhat b_mo_testedWhat 2 none ∈ lw_good := ga_11 59 rfl rfl
theorem im_mo_testedWhat : Cond.instanceMethod y_mo_testedWhat ∈ lw_good := ga_11 58 rfl rfl
theorem se_mo_testedWhat : Cond.selects R_mo y_mo_testedWhat y_mo_testedWhat ∈ lw_good := good_sel (q := (y_mo_testedWhat, 166)) (pv_10 (List.mem_of_getElem? (i := 2) rfl)) rfl
theorem cd_mo_what : Cond.code y_mo_what b_mo_what 2 none ∈ lw_good := ga_11 63 rfl rfl
theorem im_mo_what : Cond.instanceMethod y_mo_what ∈ lw_good := ga_11 62 rfl rfl
theorem se_mo_what : Cond.selects R_mo y_mo_what y_mo_what ∈ lw_good := good_sel (q := (y_mo_what, 166)) (pv_10 (List.mem_of_getElem? (i := 3) rfl)) rfl
theorem cd_mo_placing : Cond.code y_mo_placing b_mo_placing 3 (some .int) ∈ lw_good := ga_11 67 rfl rfl
theorem im_mo_placing : Cond.instanceMethod y_mo_placing ∈ lw_good := ga_11 66 rfl rfl
theorem se_mo_placing : Cond.selects R_mo y_mo_placing y_mo_placing ∈ lw_good := good_sel (q := (y_mo_placing, 166)) (pv_10 (List.mem_of_getElem? (i := 4) rfl)) rfl
theorem cd_mo_rule : Cond.code y_mo_rule b_mo_rule 2 none ∈ lw_good := ga_11 71 rfl rfl
theorem im_mo_rule : Cond.instanceMethod y_mo_rule ∈ lw_good := ga_11 70 rfl rfl
theorem se_mo_rule : Cond.selects R_mo y_mo_rule y_mo_rule ∈ lw_good := good_sel (q := (y_mo_rule, 166)) (pv_10 (List.mem_of_getElem? (i := 5) rfl)) rfl
theorem cd_mo_phrases : Cond.code y_mo_phrases b_mo_phrases 1 none ∈ lw_good := ga_11 75 rfl rfl
theorem im_mo_phrases : Cond.instanceMethod y_mo_phrases ∈ lw_good := ga_11 74 rfl rfl
theorem se_mo_phrases : Cond.selects R_mo y_mo_phrases y_mo_phrases ∈ lw_good := good_sel (q := (y_mo_phrases, 166)) (pv_10 (List.mem_of_getElem? (i := 6) rfl)) rfl
theorem cd_mo_phrase : Cond.code y_mo_phrase b_mo_phrase 3 none ∈ lw_good := ga_11 79 rfl rfl
theorem im_mo_phrase : Cond.instanceMethod y_mo_phrase ∈ lw_good := ga_11 78 rfl rfl
theorem se_mo_phrase : Cond.selects R_mo y_mo_phrase y_mo_phrase ∈ lw_good := good_sel (q := (y_mo_phrase, 166)) (pv_10 (List.mem_of_getElem? (i := 7) rfl)) rfl
theorem cd_mo_be : Cond.code y_mo_be b_mo_be 1 none ∈ lw_good := ga_11 83 rfl rfl
theorem im_mo_be : Cond.instanceMethod y_mo_be ∈ lw_good := ga_11 82 rfl rfl
theorem se_mo_be : Cond.selects R_mo y_mo_be y_mo_be ∈ lw_good := good_sel (q := (y_mo_be, 166)) (pv_10 (List.mem_of_getElem? (i := 8) rfl)) rfl
theorem cd_mo_common : Cond.code y_mo_common b_mo_common 5 none ∈ lw_good := ga_11 87 rfl rfl
theorem im_mo_common : Cond.instanceMethod y_mo_common ∈ lw_good := ga_11 86 rfl rfl
theorem se_mo_common : Cond.selects R_mo y_mo_common y_mo_common ∈ lw_good := good_sel (q := (y_mo_common, 166)) (pv_10 (List.mem_of_getElem? (i := 9) rfl)) rfl
theorem cd_mo_others : Cond.code y_mo_others b_mo_others 4 none ∈ lw_good := ga_11 91 rfl rfl
theorem im_mo_others : Cond.instanceMethod y_mo_others ∈ lw_good := ga_11 90 rfl rfl
theorem se_mo_others : Cond.selects R_mo y_mo_others y_mo_others ∈ lw_good := good_sel (q := (y_mo_others, 166)) (pv_10 (List.mem_of_getElem? (i := 10) rfl)) rfl
theorem cd_mo_oneOrVarious : Cond.code y_mo_oneOrVarious b_mo_oneOrVarious 2 (some .boolean) ∈ lw_good := ga_11 95 rfl rfl
theorem im_mo_oneOrVarious : Cond.instanceMethod y_mo_oneOrVarious ∈ lw_good := ga_11 94 rfl rfl
theorem se_mo_oneOrVarious : Cond.selects R_mo y_mo_oneOrVarious y_mo_oneOrVarious ∈ lw_good := good_sel (q := (y_mo_oneOrVarious, 166)) (pv_10 (List.mem_of_getElem? (i := 11) rfl)) rfl
theorem cd_mo_list : Cond.code y_mo_list b_mo_list 3 none ∈ lw_good := ga_11 99 rfl rfl
theorem im_mo_list : Cond.instanceMethod y_mo_list ∈ lw_good := ga_11 98 rfl rfl
theorem se_mo_list : Cond.selects R_mo y_mo_list y_mo_list ∈ lw_good := good_sel (q := (y_mo_list, 166)) (pv_10 (List.mem_of_getElem? (i := 12) rfl)) rfl
theorem cd_mo_isMore : Cond.code y_mo_isMore b_mo_isMore 1 (some .boolean) ∈ lw_good := ga_11 103 rfl rfl
theorem im_mo_isMore : Cond.instanceMethod y_mo_isMore ∈ lw_good := ga_11 102 rfl rfl
theorem se_mo_isMore : Cond.selects R_mo y_mo_isMore y_mo_isMore ∈ lw_good := good_sel (q := (y_mo_isMore, 166)) (pv_10 (List.mem_of_getElem? (i := 13) rfl)) rfl
theorem cd_mo_rest : Cond.code y_mo_rest b_mo_rest 2 none ∈ lw_good := ga_11 107 rfl rfl
theorem im_mo_rest : Cond.instanceMethod y_mo_rest ∈ lw_good := ga_11 106 rfl rfl
theorem se_mo_rest : Cond.selects R_mo y_mo_rest y_mo_rest ∈ lw_good := good_sel (q := (y_mo_rest, 166)) (pv_10 (List.mem_of_getElem? (i := 14) rfl)) rfl
theorem cd_mo_asked : Cond.code y_mo_asked b_mo_asked 2 none ∈ lw_good := ga_11 111 rfl rfl
theorem im_mo_asked : Cond.instanceMethod y_mo_asked ∈ lw_good := ga_11 110 rfl rfl
theorem se_mo_asked : Cond.selects R_mo y_mo_asked y_mo_asked ∈ lw_good := good_sel (q := (y_mo_asked, 166)) (pv_10 (List.mem_of_getElem? (i := 15) rfl)) rfl
theorem cd_mo_need : Cond.code y_mo_need b_mo_need 4 none ∈ lw_good := ga_11 115 rfl rfl
theorem im_mo_need : Cond.instanceMethod y_mo_need ∈ lw_good := ga_11 114 rfl rfl
theorem se_mo_need : Cond.selects R_mo y_mo_need y_mo_need ∈ lw_good := good_sel (q := (y_mo_need, 166)) (pv_11 (List.mem_of_getElem? (i := 0) rfl)) rfl
theorem cd_mo_note : Cond.code y_mo_note b_mo_note 4 none ∈ lw_good := ga_11 119 rfl rfl
theorem im_mo_note : Cond.instanceMethod y_mo_note ∈ lw_good := ga_11 118 rfl rfl
theorem se_mo_note : Cond.selects R_mo y_mo_note y_mo_note ∈ lw_good := good_sel (q := (y_mo_note, 166)) (pv_11 (List.mem_of_getElem? (i := 1) rfl)) rfl
theorem cd_mo_rank : Cond.code y_mo_rank b_mo_rank 1 (some .int) ∈ lw_good := ga_11 122 rfl rfl
theorem st_mo_rank : Cond.static y_mo_rank ∈ lw_good := ga_11 121 rfl rfl
theorem cd_mo_askCommand : Cond.code y_mo_askCommand b_mo_askCommand 4 none ∈ lw_good := ga_11 126 rfl rfl
theorem im_mo_askCommand : Cond.instanceMethod y_mo_askCommand ∈ lw_good := ga_11 125 rfl rfl
theorem se_mo_askCommand : Cond.selects R_mo y_mo_askCommand y_mo_askCommand ∈ lw_good := good_sel (q := (y_mo_askCommand, 166)) (pv_11 (List.mem_of_getElem? (i := 2) rfl)) rfl
theorem cd_mo_isCommand : Cond.code y_mo_isCommand b_mo_isCommand 8 (some .boolean) ∈ lw_good := ga_11 130 rfl rfl
theorem im_mo_isCommand : Cond.instanceMethod y_mo_isCommand ∈ lw_good := ga_11 129 rfl rfl
theorem se_mo_isCommand : Cond.selects R_mo y_mo_isCommand y_mo_isCommand ∈ lw_good := good_sel (q := (y_mo_isCommand, 166)) (pv_11 (List.mem_of_getElem? (i := 3) rfl)) rfl
theorem cd_mo_slot : Cond.code y_mo_slot b_mo_slot 5 (some .int) ∈ lw_good := ga_11 134 rfl rfl
theorem im_mo_slot : Cond.instanceMethod y_mo_slot ∈ lw_good := ga_11 133 rfl rfl
theorem se_mo_slot : Cond.selects R_mo y_mo_slot y_mo_slot ∈ lw_good := good_sel (q := (y_mo_slot, 166)) (pv_11 (List.mem_of_getElem? (i := 4) rfl)) rfl
theorem cd_mo_meansRun : Cond.code y_mo_meansRun b_mo_meansRun 3 (some .int) ∈ lw_good := ga_11 139 rfl rfl
theorem im_mo_meansRun : Cond.instanceMethod y_mo_meansRun ∈ lw_good := ga_11 138 rfl rfl
theorem se_mo_meansRun : Cond.selects R_mo y_mo_meansRun y_mo_meansRun ∈ lw_good := good_sel (q := (y_mo_meansRun, 166)) (pv_11 (List.mem_of_getElem? (i := 5) rfl)) rfl
theorem cd_mo_means : Cond.code y_mo_means b_mo_means 5 (some .int) ∈ lw_good := ga_11 143 rfl rfl
theorem im_mo_means : Cond.instanceMethod y_mo_means ∈ lw_good := ga_11 142 rfl rfl
theorem se_mo_means : Cond.selects R_mo y_mo_means y_mo_means ∈ lw_good := good_sel (q := (y_mo_means, 166)) (pv_11 (List.mem_of_getElem? (i := 6) rfl)) rfl
theorem cd_mo_mean : Cond.code y_mo_mean b_mo_mean 3 (some .int) ∈ lw_good := ga_11 147 rfl rfl
theorem im_mo_mean : Cond.instanceMethod y_mo_mean ∈ lw_good := ga_11 146 rfl rfl
theorem se_mo_mean : Cond.selects R_mo y_mo_mean y_mo_mean ∈ lw_good := good_sel (q := (y_mo_mean, 166)) (pv_11 (List.mem_of_getElem? (i := 7) rfl)) rfl
theorem cd_mo_find : Cond.code y_mo_find b_mo_find 9 (some .int) ∈ lw_good := ga_11 151 rfl rfl
theorem im_mo_find : Cond.instanceMethod y_mo_find ∈ lw_good := ga_11 150 rfl rfl
theorem se_mo_find : Cond.selects R_mo y_mo_find y_mo_find ∈ lw_good := good_sel (q := (y_mo_find, 166)) (pv_11 (List.mem_of_getElem? (i := 8) rfl)) rfl
theorem cd_mo_isBelow : Cond.code y_mo_isBelow b_mo_isBelow 4 (some .boolean) ∈ lw_good := ga_11 156 rfl rfl
theorem im_mo_isBelow : Cond.instanceMethod y_mo_isBelow ∈ lw_good := ga_11 155 rfl rfl
theorem se_mo_isBelow : Cond.selects R_mo y_mo_isBelow y_mo_isBelow ∈ lw_good := good_sel (q := (y_mo_isBelow, 166)) (pv_11 (List.mem_of_getElem? (i := 9) rfl)) rfl
theorem cd_mo_kindOfRun : Cond.code y_mo_kindOfRun b_mo_kindOfRun 3 (some .int) ∈ lw_good := ga_11 160 rfl rfl
theorem im_mo_kindOfRun : Cond.instanceMethod y_mo_kindOfRun ∈ lw_good := ga_11 159 rfl rfl
theorem se_mo_kindOfRun : Cond.selects R_mo y_mo_kindOfRun y_mo_kindOfRun ∈ lw_good := good_sel (q := (y_mo_kindOfRun, 166)) (pv_11 (List.mem_of_getElem? (i := 10) rfl)) rfl
theorem cd_mo_mustBeNew : Cond.code y_mo_mustBeNew b_mo_mustBeNew 4 none ∈ lw_good := ga_11 164 rfl rfl
theorem im_mo_mustBeNew : Cond.instanceMethod y_mo_mustBeNew ∈ lw_good := ga_11 163 rfl rfl
theorem se_mo_mustBeNew : Cond.selects R_mo y_mo_mustBeNew y_mo_mustBeNew ∈ lw_good := good_sel (q := (y_mo_mustBeNew, 166)) (pv_11 (List.mem_of_getElem? (i := 11) rfl)) rfl
theorem cd_mo_isNew : Cond.code y_mo_isNew b_mo_isNew 4 (some .boolean) ∈ lw_good := ga_11 168 rfl rfl
theorem im_mo_isNew : Cond.instanceMethod y_mo_isNew ∈ lw_good := ga_11 167 rfl rfl
theorem se_mo_isNew : Cond.selects R_mo y_mo_isNew y_mo_isNew ∈ lw_good := good_sel (q := (y_mo_isNew, 166)) (pv_11 (List.mem_of_getElem? (i := 12) rfl)) rfl
theorem cd_mo_isAlike : Cond.code y_mo_isAlike b_mo_isAlike 5 (some .boolean) ∈ lw_good := ga_11 172 rfl rfl
theorem im_mo_isAlike : Cond.instanceMethod y_mo_isAlike ∈ lw_good := ga_11 171 rfl rfl
theorem se_mo_isAlike : Cond.selects R_mo y_mo_isAlike y_mo_isAlike ∈ lw_good := good_sel (q := (y_mo_isAlike, 166)) (pv_11 (List.mem_of_getElem? (i := 13) rfl)) rfl
theorem cd_mo_testsMeant : Cond.code y_mo_testsMeant b_mo_testsMeant 2 none ∈ lw_good := ga_11 176 rfl rfl
theorem im_mo_testsMeant : Cond.instanceMethod y_mo_testsMeant ∈ lw_good := ga_11 175 rfl rfl
theorem se_mo_testsMeant : Cond.selects R_mo y_mo_testsMeant y_mo_testsMeant ∈ lw_good := good_sel (q := (y_mo_testsMeant, 166)) (pv_11 (List.mem_of_getElem? (i := 14) rfl)) rfl
theorem cd_mo_testMeant : Cond.code y_mo_testMeant b_mo_testMeant 7 none ∈ lw_good := ga_11 180 rfl rfl
theorem im_mo_testMeant : Cond.instanceMethod y_mo_testMeant ∈ lw_good := ga_11 179 rfl rfl
theorem se_mo_testMeant : Cond.selects R_mo y_mo_testMeant y_mo_testMeant ∈ lw_good := good_sel (q := (y_mo_testMeant, 166)) (pv_11 (List.mem_of_getElem? (i := 15) rfl)) rfl
theorem cd_mo_sayings : Cond.code y_mo_sayings b_mo_sayings 10 (some .int) ∈ lw_good := ga_11 184 rfl rfl
theorem im_mo_sayings : Cond.instanceMethod y_mo_sayings ∈ lw_good := ga_11 183 rfl rfl
theorem se_mo_sayings : Cond.selects R_mo y_mo_sayings y_mo_sayings ∈ lw_good := good_sel (q := (y_mo_sayings, 166)) (pv_12 (List.mem_of_getElem? (i := 0) rfl)) rfl
theorem cd_mo_thingOf : Cond.code y_mo_thingOf b_mo_thingOf 4 (some .int) ∈ lw_good := ga_11 188 rfl rfl
theorem im_mo_thingOf : Cond.instanceMethod y_mo_thingOf ∈ lw_good := ga_11 187 rfl rfl
theorem se_mo_thingOf : Cond.selects R_mo y_mo_thingOf y_mo_thingOf ∈ lw_good := good_sel (q := (y_mo_thingOf, 166)) (pv_12 (List.mem_of_getElem? (i := 1) rfl)) rfl
theorem cd_mo_objectOf : Cond.code y_mo_objectOf b_mo_objectOf 5 (some .int) ∈ lw_good := ga_11 192 rfl rfl
theorem im_mo_objectOf : Cond.instanceMethod y_mo_objectOf ∈ lw_good := ga_11 191 rfl rfl
theorem se_mo_objectOf : Cond.selects R_mo y_mo_objectOf y_mo_objectOf ∈ lw_good := good_sel (q := (y_mo_objectOf, 166)) (pv_12 (List.mem_of_getElem? (i := 2) rfl)) rfl
theorem cd_mo_fits : Cond.code y_mo_fits b_mo_fits 3 (some .boolean) ∈ lw_good := ga_11 196 rfl rfl
theorem im_mo_fits : Cond.instanceMethod y_mo_fits ∈ lw_good := ga_11 195 rfl rfl
theorem se_mo_fits : Cond.selects R_mo y_mo_fits y_mo_fits ∈ lw_good := good_sel (q := (y_mo_fits, 166)) (pv_12 (List.mem_of_getElem? (i := 3) rfl)) rfl
theorem cd_mo_kindOfThing : Cond.code y_mo_kindOfThing b_mo_kindOfThing 2 (some .int) ∈ lw_good := ga_11 200 rfl rfl
theorem im_mo_kindOfThing : Cond.instanceMethod y_mo_kindOfThing ∈ lw_good := ga_11 199 rfl rfl
theorem se_mo_kindOfThing : Cond.selects R_mo y_mo_kindOfThing y_mo_kindOfThing ∈ lw_good := good_sel (q := (y_mo_kindOfThing, 166)) (pv_12 (List.mem_of_getElem? (i := 4) rfl)) rfl
theorem cd_mo_meant : Cond.code y_mo_meant b_mo_meant 6 (some .int) ∈ lw_good := ga_11 204 rfl rfl
theorem im_mo_meant : Cond.instanceMethod y_mo_meant ∈ lw_good := ga_11 203 rfl rfl
theorem se_mo_meant : Cond.selects R_mo y_mo_meant y_mo_meant ∈ lw_good := good_sel (q := (y_mo_meant, 166)) (pv_12 (List.mem_of_getElem? (i := 5) rfl)) rfl
theorem cd_mo_adjective : Cond.code y_mo_adjective b_mo_adjective 9 (some .int) ∈ lw_good := ga_11 208 rfl rfl
theorem im_mo_adjective : Cond.instanceMethod y_mo_adjective ∈ lw_good := ga_11 207 rfl rfl
theorem se_mo_adjective : Cond.selects R_mo y_mo_adjective y_mo_adjective ∈ lw_good := good_sel (q := (y_mo_adjective, 166)) (pv_12 (List.mem_of_getElem? (i := 6) rfl)) rfl
theorem cd_mo_propertyOf : Cond.code y_mo_propertyOf b_mo_propertyOf 5 (some .int) ∈ lw_good := ga_11 212 rfl rfl
theorem im_mo_propertyOf : Cond.instanceMethod y_mo_propertyOf ∈ lw_good := ga_11 211 rfl rfl
theorem se_mo_propertyOf : Cond.selects R_mo y_mo_propertyOf y_mo_propertyOf ∈ lw_good := good_sel (q := (y_mo_propertyOf, 166)) (pv_12 (List.mem_of_getElem? (i := 7) rfl)) rfl
theorem cd_mo_has : Cond.code y_mo_has b_mo_has 4 (some .boolean) ∈ lw_good := ga_11 216 rfl rfl
theorem im_mo_has : Cond.instanceMethod y_mo_has ∈ lw_good := ga_11 215 rfl rfl
theorem se_mo_has : Cond.selects R_mo y_mo_has y_mo_has ∈ lw_good := good_sel (q := (y_mo_has, 166)) (pv_12 (List.mem_of_getElem? (i := 8) rfl)) rfl
theorem cd_mo_propertyMeant : Cond.code y_mo_propertyMeant b_mo_propertyMeant 4 (some .int) ∈ lw_good := ga_11 220 rfl rfl
theorem im_mo_propertyMeant : Cond.instanceMethod y_mo_propertyMeant ∈ lw_good := ga_11 219 rfl rfl
theorem se_mo_propertyMeant : Cond.selects R_mo y_mo_propertyMeant y_mo_propertyMeant ∈ lw_good := good_sel (q := (y_mo_propertyMeant, 166)) (pv_12 (List.mem_of_getElem? (i := 9) rfl)) rfl
theorem cd_mo_whatMeant : Cond.code y_mo_whatMeant b_mo_whatMeant 7 none ∈ lw_good := ga_11 224 rfl rfl
theorem im_mo_whatMeant : Cond.instanceMethod y_mo_whatMeant ∈ lw_good := ga_11 223 rfl rfl
theorem se_mo_whatMeant : Cond.selects R_mo y_mo_whatMeant y_mo_whatMeant ∈ lw_good := good_sel (q := (y_mo_whatMeant, 166)) (pv_12 (List.mem_of_getElem? (i := 10) rfl)) rfl
theorem cd_mo_numberMeant : Cond.code y_mo_numberMeant b_mo_numberMeant 3 none ∈ lw_good := ga_11 228 rfl rfl
theorem im_mo_numberMeant : Cond.instanceMethod y_mo_numberMeant ∈ lw_good := ga_11 227 rfl rfl
theorem se_mo_numberMeant : Cond.selects R_mo y_mo_numberMeant y_mo_numberMeant ∈ lw_good := good_sel (q := (y_mo_numberMeant, 166)) (pv_12 (List.mem_of_getElem? (i := 11) rfl)) rfl
theorem cd_mo_askVerb : Cond.code y_mo_askVerb b_mo_askVerb 3 none ∈ lw_good := ga_11 232 rfl rfl
theorem im_mo_askVerb : Cond.instanceMethod y_mo_askVerb ∈ lw_good := ga_11 231 rfl rfl
theorem se_mo_askVerb : Cond.selects R_mo y_mo_askVerb y_mo_askVerb ∈ lw_good := good_sel (q := (y_mo_askVerb, 166)) (pv_12 (List.mem_of_getElem? (i := 12) rfl)) rfl
theorem cd_mo_kindOrPlural : Cond.code y_mo_kindOrPlural b_mo_kindOrPlural 3 (some .int) ∈ lw_good := ga_11 237 rfl rfl
theorem im_mo_kindOrPlural : Cond.instanceMethod y_mo_kindOrPlural ∈ lw_good := ga_11 236 rfl rfl
theorem se_mo_kindOrPlural : Cond.selects R_mo y_mo_kindOrPlural y_mo_kindOrPlural ∈ lw_good := good_sel (q := (y_mo_kindOrPlural, 166)) (pv_12 (List.mem_of_getElem? (i := 13) rfl)) rfl
theorem cd_mo_typeOrPlural : Cond.code y_mo_typeOrPlural b_mo_typeOrPlural 3 (some .int) ∈ lw_good := ga_12 1 rfl rfl
theorem im_mo_typeOrPlural : Cond.instanceMethod y_mo_typeOrPlural ∈ lw_good := ga_12 0 rfl rfl
theorem se_mo_typeOrPlural : Cond.selects R_mo y_mo_typeOrPlural y_mo_typeOrPlural ∈ lw_good := good_sel (q := (y_mo_typeOrPlural, 166)) (pv_12 (List.mem_of_getElem? (i := 14) rfl)) rfl
theorem cd_mo_askProperty : Cond.code y_mo_askProperty b_mo_askProperty 5 none ∈ lw_good := ga_12 5 rfl rfl
theorem im_mo_askProperty : Cond.instanceMethod y_mo_askProperty ∈ lw_good := ga_12 4 rfl rfl
theorem se_mo_askProperty : Cond.selects R_mo y_mo_askProperty y_mo_askProperty ∈ lw_good := good_sel (q := (y_mo_askProperty, 166)) (pv_12 (List.mem_of_getElem? (i := 15) rfl)) rfl
theorem cd_mo_askKinds : Cond.code y_mo_askKinds b_mo_askKinds 6 none ∈ lw_good := ga_12 9 rfl rfl
theorem im_mo_askKinds : Cond.instanceMethod y_mo_askKinds ∈ lw_good := ga_12 8 rfl rfl
theorem se_mo_askKinds : Cond.selects R_mo y_mo_askKinds y_mo_askKinds ∈ lw_good := good_sel (q := (y_mo_askKinds, 166)) (pv_13 (List.mem_of_getElem? (i := 0) rfl)) rfl
theorem cd_mo_objectsOrNew : Cond.code y_mo_objectsOrNew b_mo_objectsOrNew 5 none ∈ lw_good := ga_12 13 rfl rfl
theorem im_mo_objectsOrNew : Cond.instanceMethod y_mo_objectsOrNew ∈ lw_good := ga_12 12 rfl rfl
theorem se_mo_objectsOrNew : Cond.selects R_mo y_mo_objectsOrNew y_mo_objectsOrNew ∈ lw_good := good_sel (q := (y_mo_objectsOrNew, 166)) (pv_13 (List.mem_of_getElem? (i := 1) rfl)) rfl
theorem cd_mo_meansNothing : Cond.code y_mo_meansNothing b_mo_meansNothing 2 (some .boolean) ∈ lw_good := ga_12 17 rfl rfl
theorem im_mo_meansNothing : Cond.instanceMethod y_mo_meansNothing ∈ lw_good := ga_12 16 rfl rfl
theorem se_mo_meansNothing : Cond.selects R_mo y_mo_meansNothing y_mo_meansNothing ∈ lw_good := good_sel (q := (y_mo_meansNothing, 166)) (pv_13 (List.mem_of_getElem? (i := 2) rfl)) rfl
theorem cd_mo_describe : Cond.code y_mo_describe b_mo_describe 8 none ∈ lw_good := ga_12 21 rfl rfl
theorem im_mo_describe : Cond.instanceMethod y_mo_describe ∈ lw_good := ga_12 20 rfl rfl
theorem se_mo_describe : Cond.selects R_mo y_mo_describe y_mo_describe ∈ lw_good := good_sel (q := (y_mo_describe, 166)) (pv_13 (List.mem_of_getElem? (i := 3) rfl)) rfl
theorem cd_mo_parted : Cond.code y_mo_parted b_mo_parted 10 none ∈ lw_good := ga_12 25 rfl rfl
theorem im_mo_parted : Cond.instanceMethod y_mo_parted ∈ lw_good := ga_12 24 rfl rfl
theorem se_mo_parted : Cond.selects R_mo y_mo_parted y_mo_parted ∈ lw_good := good_sel (q := (y_mo_parted, 166)) (pv_13 (List.mem_of_getElem? (i := 4) rfl)) rfl
theorem cd_mo_oneReading : Cond.code y_mo_oneReading b_mo_oneReading 2 none ∈ lw_good := ga_12 29 rfl rfl
theorem im_mo_oneReading : Cond.instanceMethod y_mo_oneReading ∈ lw_good := ga_12 28 rfl rfl
theorem se_mo_oneReading : Cond.selects R_mo y_mo_oneReading y_mo_oneReading ∈ lw_good := good_sel (q := (y_mo_oneReading, 166)) (pv_13 (List.mem_of_getElem? (i := 5) rfl)) rfl
theorem cd_mo_askPlace : Cond.code y_mo_askPlace b_mo_askPlace 2 none ∈ lw_good := ga_12 33 rfl rfl
theorem im_mo_askPlace : Cond.instanceMethod y_mo_askPlace ∈ lw_good := ga_12 32 rfl rfl
theorem se_mo_askPlace : Cond.selects R_mo y_mo_askPlace y_mo_askPlace ∈ lw_good := good_sel (q := (y_mo_askPlace, 166)) (pv_13 (List.mem_of_getElem? (i := 6) rfl)) rfl
theorem cd_mo_mayHold : Cond.code y_mo_mayHold b_mo_mayHold 3 (some .boolean) ∈ lw_good := ga_12 37 rfl rfl
theorem im_mo_mayHold : Cond.instanceMethod y_mo_mayHold ∈ lw_good := ga_12 36 rfl rfl
theorem se_mo_mayHold : Cond.selects R_mo y_mo_mayHold y_mo_mayHold ∈ lw_good := good_sel (q := (y_mo_mayHold, 166)) (pv_13 (List.mem_of_getElem? (i := 7) rfl)) rfl
theorem cd_mo_kindOfWay : Cond.code y_mo_kindOfWay b_mo_kindOfWay 1 (some .int) ∈ lw_good := ga_12 40 rfl rfl
theorem st_mo_kindOfWay : Cond.static y_mo_kindOfWay ∈ lw_good := ga_12 39 rfl rfl
theorem cd_mo_askWay : Cond.code y_mo_askWay b_mo_askWay 3 none ∈ lw_good := ga_12 44 rfl rfl
theorem im_mo_askWay : Cond.instanceMethod y_mo_askWay ∈ lw_good := ga_12 43 rfl rfl
theorem se_mo_askWay : Cond.selects R_mo y_mo_askWay y_mo_askWay ∈ lw_good := good_sel (q := (y_mo_askWay, 166)) (pv_13 (List.mem_of_getElem? (i := 8) rfl)) rfl
theorem cd_mo_askFifteen : Cond.code y_mo_askFifteen b_mo_askFifteen 10 none ∈ lw_good := ga_12 48 rfl rfl
theorem im_mo_askFifteen : Cond.instanceMethod y_mo_askFifteen ∈ lw_good := ga_12 47 rfl rfl
theorem se_mo_askFifteen : Cond.selects R_mo y_mo_askFifteen y_mo_askFifteen ∈ lw_good := good_sel (q := (y_mo_askFifteen, 166)) (pv_13 (List.mem_of_getElem? (i := 9) rfl)) rfl
theorem cd_mo_askValues : Cond.code y_mo_askValues b_mo_askValues 5 none ∈ lw_good := ga_12 52 rfl rfl
theorem im_mo_askValues : Cond.instanceMethod y_mo_askValues ∈ lw_good := ga_12 51 rfl rfl
theorem se_mo_askValues : Cond.selects R_mo y_mo_askValues y_mo_askValues ∈ lw_good := good_sel (q := (y_mo_askValues, 166)) (pv_13 (List.mem_of_getElem? (i := 10) rfl)) rfl
theorem cd_mo_askSaying : Cond.code y_mo_askSaying b_mo_askSaying 10 none ∈ lw_good := ga_12 56 rfl rfl
theorem im_mo_askSaying : Cond.instanceMethod y_mo_askSaying ∈ lw_good := ga_12 55 rfl rfl
theorem se_mo_askSaying : Cond.selects R_mo y_mo_askSaying y_mo_askSaying ∈ lw_good := good_sel (q := (y_mo_askSaying, 166)) (pv_13 (List.mem_of_getElem? (i := 11) rfl)) rfl
theorem cd_mo_listOf : Cond.code y_mo_listOf b_mo_listOf 10 (some .int) ∈ lw_good := ga_12 60 rfl rfl
theorem im_mo_listOf : Cond.instanceMethod y_mo_listOf ∈ lw_good := ga_12 59 rfl rfl
theorem se_mo_listOf : Cond.selects R_mo y_mo_listOf y_mo_listOf ∈ lw_good := good_sel (q := (y_mo_listOf, 166)) (pv_13 (List.mem_of_getElem? (i := 12) rfl)) rfl
theorem cd_mo_ruleMeant : Cond.code y_mo_ruleMeant b_mo_ruleMeant 5 none ∈ lw_good := ga_12 64 rfl rfl
theorem im_mo_ruleMeant : Cond.instanceMethod y_mo_ruleMeant ∈ lw_good := ga_12 63 rfl rfl
theorem se_mo_ruleMeant : Cond.selects R_mo y_mo_ruleMeant y_mo_ruleMeant ∈ lw_good := good_sel (q := (y_mo_ruleMeant, 166)) (pv_13 (List.mem_of_getElem? (i := 13) rfl)) rfl
theorem cd_mo_actingMeant : Cond.code y_mo_actingMeant b_mo_actingMeant 7 none ∈ lw_good := ga_12 68 rfl rfl
theorem im_mo_actingMeant : Cond.instanceMethod y_mo_actingMeant ∈ lw_good := ga_12 67 rfl rfl
theorem se_mo_actingMeant : Cond.selects R_mo y_mo_actingMeant y_mo_actingMeant ∈ lw_good := good_sel (q := (y_mo_actingMeant, 166)) (pv_13 (List.mem_of_getElem? (i := 14) rfl)) rfl
theorem cd_mo_actings : Cond.code y_mo_actings b_mo_actings 9 (some .int) ∈ lw_good := ga_12 72 rfl rfl
theorem im_mo_actings : Cond.instanceMethod y_mo_actings ∈ lw_good := ga_12 71 rfl rfl
theorem se_mo_actings : Cond.selects R_mo y_mo_actings y_mo_actings ∈ lw_good := good_sel (q := (y_mo_actings, 166)) (pv_13 (List.mem_of_getElem? (i := 15) rfl)) rfl
theorem cd_mo_phraseMeant : Cond.code y_mo_phraseMeant b_mo_phraseMeant 7 none ∈ lw_good := ga_12 77 rfl rfl
theorem im_mo_phraseMeant : Cond.instanceMethod y_mo_phraseMeant ∈ lw_good := ga_12 76 rfl rfl
theorem se_mo_phraseMeant : Cond.selects R_mo y_mo_phraseMeant y_mo_phraseMeant ∈ lw_good := good_sel (q := (y_mo_phraseMeant, 166)) (pv_14 (List.mem_of_getElem? (i := 0) rfl)) rfl
theorem cd_mo_says : Cond.code y_mo_says b_mo_says 5 (some .boolean) ∈ lw_good := ga_12 81 rfl rfl
theorem im_mo_says : Cond.instanceMethod y_mo_says ∈ lw_good := ga_12 80 rfl rfl
theorem se_mo_says : Cond.selects R_mo y_mo_says y_mo_says ∈ lw_good := good_sel (q := (y_mo_says, 166)) (pv_14 (List.mem_of_getElem? (i := 1) rfl)) rfl
theorem cd_mo_written : Cond.code y_mo_written b_mo_written 5 (some .boolean) ∈ lw_good := ga_12 85 rfl rfl
theorem im_mo_written : Cond.instanceMethod y_mo_written ∈ lw_good := ga_12 84 rfl rfl
theorem se_mo_written : Cond.selects R_mo y_mo_written y_mo_written ∈ lw_good := good_sel (q := (y_mo_written, 166)) (pv_14 (List.mem_of_getElem? (i := 2) rfl)) rfl
theorem cd_mo_words : Cond.code y_mo_words b_mo_words 5 (some .int) ∈ lw_good := ga_12 89 rfl rfl
theorem im_mo_words : Cond.instanceMethod y_mo_words ∈ lw_good := ga_12 88 rfl rfl
theorem se_mo_words : Cond.selects R_mo y_mo_words y_mo_words ∈ lw_good := good_sel (q := (y_mo_words, 166)) (pv_14 (List.mem_of_getElem? (i := 3) rfl)) rfl
theorem cd_mo_saysInside : Cond.code y_mo_saysInside b_mo_saysInside 8 (some .boolean) ∈ lw_good := ga_12 93 rfl rfl
theorem im_mo_saysInside : Cond.instanceMethod y_mo_saysInside ∈ lw_good := ga_12 92 rfl rfl
theorem se_mo_saysInside : Cond.selects R_mo y_mo_saysInside y_mo_saysInside ∈ lw_good := good_sel (q := (y_mo_saysInside, 166)) (pv_14 (List.mem_of_getElem? (i := 4) rfl)) rfl
theorem cd_mo_insideThing : Cond.code y_mo_insideThing b_mo_insideThing 5 (some .int) ∈ lw_good := ga_12 97 rfl rfl
theorem im_mo_insideThing : Cond.instanceMethod y_mo_insideThing ∈ lw_good := ga_12 96 rfl rfl
theorem se_mo_insideThing : Cond.selects R_mo y_mo_insideThing y_mo_insideThing ∈ lw_good := good_sel (q := (y_mo_insideThing, 166)) (pv_14 (List.mem_of_getElem? (i := 5) rfl)) rfl
theorem cd_mo_foundIn : Cond.code y_mo_foundIn b_mo_foundIn 4 (some .int) ∈ lw_good := ga_12 101 rfl rfl
theorem im_mo_foundIn : Cond.instanceMethod y_mo_foundIn ∈ lw_good := ga_12 100 rfl rfl
theorem se_mo_foundIn : Cond.selects R_mo y_mo_foundIn y_mo_foundIn ∈ lw_good := good_sel (q := (y_mo_foundIn, 166)) (pv_14 (List.mem_of_getElem? (i := 6) rfl)) rfl
theorem cd_mo_lexOf : Cond.code y_mo_lexOf b_mo_lexOf 4 (some .int) ∈ lw_good := ga_12 105 rfl rfl
theorem im_mo_lexOf : Cond.instanceMethod y_mo_lexOf ∈ lw_good := ga_12 104 rfl rfl
theorem se_mo_lexOf : Cond.selects R_mo y_mo_lexOf y_mo_lexOf ∈ lw_good := good_sel (q := (y_mo_lexOf, 166)) (pv_14 (List.mem_of_getElem? (i := 7) rfl)) rfl
theorem cd_mo_putLex : Cond.code y_mo_putLex b_mo_putLex 3 none ∈ lw_good := ga_12 109 rfl rfl
theorem im_mo_putLex : Cond.instanceMethod y_mo_putLex ∈ lw_good := ga_12 108 rfl rfl
theorem se_mo_putLex : Cond.selects R_mo y_mo_putLex y_mo_putLex ∈ lw_good := good_sel (q := (y_mo_putLex, 166)) (pv_14 (List.mem_of_getElem? (i := 8) rfl)) rfl
theorem cd_mo_byteOf : Cond.code y_mo_byteOf b_mo_byteOf 7 (some .int) ∈ lw_good := ga_12 113 rfl rfl
theorem im_mo_byteOf : Cond.instanceMethod y_mo_byteOf ∈ lw_good := ga_12 112 rfl rfl
theorem se_mo_byteOf : Cond.selects R_mo y_mo_byteOf y_mo_byteOf ∈ lw_good := good_sel (q := (y_mo_byteOf, 166)) (pv_14 (List.mem_of_getElem? (i := 9) rfl)) rfl
theorem cd_mo_letterOf : Cond.code y_mo_letterOf b_mo_letterOf 4 (some .int) ∈ lw_good := ga_12 116 rfl rfl
theorem st_mo_letterOf : Cond.static y_mo_letterOf ∈ lw_good := ga_12 115 rfl rfl
theorem cd_mo_put : Cond.code y_mo_put b_mo_put 2 none ∈ lw_good := ga_12 121 rfl rfl
theorem im_mo_put : Cond.instanceMethod y_mo_put ∈ lw_good := ga_12 120 rfl rfl
theorem se_mo_put : Cond.selects R_mo y_mo_put y_mo_put ∈ lw_good := good_sel (q := (y_mo_put, 166)) (pv_14 (List.mem_of_getElem? (i := 10) rfl)) rfl
theorem cd_mo_putProperty : Cond.code y_mo_putProperty b_mo_putProperty 6 none ∈ lw_good := ga_12 125 rfl rfl
theorem im_mo_putProperty : Cond.instanceMethod y_mo_putProperty ∈ lw_good := ga_12 124 rfl rfl
theorem se_mo_putProperty : Cond.selects R_mo y_mo_putProperty y_mo_putProperty ∈ lw_good := good_sel (q := (y_mo_putProperty, 166)) (pv_14 (List.mem_of_getElem? (i := 11) rfl)) rfl
theorem cd_mo_numberOf : Cond.code y_mo_numberOf b_mo_numberOf 4 (some .int) ∈ lw_good := ga_12 129 rfl rfl
theorem im_mo_numberOf : Cond.instanceMethod y_mo_numberOf ∈ lw_good := ga_12 128 rfl rfl
theorem se_mo_numberOf : Cond.selects R_mo y_mo_numberOf y_mo_numberOf ∈ lw_good := good_sel (q := (y_mo_numberOf, 166)) (pv_14 (List.mem_of_getElem? (i := 12) rfl)) rfl
theorem cd_mo_putNumber : Cond.code y_mo_putNumber b_mo_putNumber 4 none ∈ lw_good := ga_12 133 rfl rfl
theorem im_mo_putNumber : Cond.instanceMethod y_mo_putNumber ∈ lw_good := ga_12 132 rfl rfl
theorem se_mo_putNumber : Cond.selects R_mo y_mo_putNumber y_mo_putNumber ∈ lw_good := good_sel (q := (y_mo_putNumber, 166)) (pv_14 (List.mem_of_getElem? (i := 13) rfl)) rfl
theorem cd_mo_does : Cond.code y_mo_does b_mo_does 3 none ∈ lw_good := ga_12 138 rfl rfl
theorem im_mo_does : Cond.instanceMethod y_mo_does ∈ lw_good := ga_12 137 rfl rfl
theorem se_mo_does : Cond.selects R_mo y_mo_does y_mo_does ∈ lw_good := good_sel (q := (y_mo_does, 166)) (pv_14 (List.mem_of_getElem? (i := 14) rfl)) rfl
theorem cd_mo_tellObject : Cond.code y_mo_tellObject b_mo_tellObject 6 (some .boolean) ∈ lw_good := ga_12 142 rfl rfl
theorem im_mo_tellObject : Cond.instanceMethod y_mo_tellObject ∈ lw_good := ga_12 141 rfl rfl
theorem se_mo_tellObject : Cond.selects R_mo y_mo_tellObject y_mo_tellObject ∈ lw_good := good_sel (q := (y_mo_tellObject, 166)) (pv_14 (List.mem_of_getElem? (i := 15) rfl)) rfl
theorem cd_mo_tellsOtherwise : Cond.code y_mo_tellsOtherwise b_mo_tellsOtherwise 6 (some .boolean) ∈ lw_good := ga_12 146 rfl rfl
theorem im_mo_tellsOtherwise : Cond.instanceMethod y_mo_tellsOtherwise ∈ lw_good := ga_12 145 rfl rfl
theorem se_mo_tellsOtherwise : Cond.selects R_mo y_mo_tellsOtherwise y_mo_tellsOtherwise ∈ lw_good := good_sel (q := (y_mo_tellsOtherwise, 166)) (pv_15 (List.mem_of_getElem? (i := 0) rfl)) rfl
theorem cd_mo_isSameText : Cond.code y_mo_isSameText b_mo_isSameText 7 (some .boolean) ∈ lw_good := ga_12 150 rfl rfl
theorem im_mo_isSameText : Cond.instanceMethod y_mo_isSameText ∈ lw_good := ga_12 149 rfl rfl
theorem se_mo_isSameText : Cond.selects R_mo y_mo_isSameText y_mo_isSameText ∈ lw_good := good_sel (q := (y_mo_isSameText, 166)) (pv_15 (List.mem_of_getElem? (i := 1) rfl)) rfl
theorem cd_mo_wrong : Cond.code y_mo_wrong b_mo_wrong 3 none ∈ lw_good := ga_12 154 rfl rfl
theorem im_mo_wrong : Cond.instanceMethod y_mo_wrong ∈ lw_good := ga_12 153 rfl rfl
theorem se_mo_wrong : Cond.selects R_mo y_mo_wrong y_mo_wrong ∈ lw_good := good_sel (q := (y_mo_wrong, 166)) (pv_15 (List.mem_of_getElem? (i := 2) rfl)) rfl
theorem cd_mo_doCommand : Cond.code y_mo_doCommand b_mo_doCommand 2 none ∈ lw_good := ga_12 158 rfl rfl
theorem im_mo_doCommand : Cond.instanceMethod y_mo_doCommand ∈ lw_good := ga_12 157 rfl rfl
theorem se_mo_doCommand : Cond.selects R_mo y_mo_doCommand y_mo_doCommand ∈ lw_good := good_sel (q := (y_mo_doCommand, 166)) (pv_15 (List.mem_of_getElem? (i := 3) rfl)) rfl
theorem cd_mo_doDefined : Cond.code y_mo_doDefined b_mo_doDefined 2 none ∈ lw_good := ga_12 162 rfl rfl
theorem im_mo_doDefined : Cond.instanceMethod y_mo_doDefined ∈ lw_good := ga_12 161 rfl rfl
theorem se_mo_doDefined : Cond.selects R_mo y_mo_doDefined y_mo_doDefined ∈ lw_good := good_sel (q := (y_mo_doDefined, 166)) (pv_15 (List.mem_of_getElem? (i := 4) rfl)) rfl
theorem cd_mo_tellRun : Cond.code y_mo_tellRun b_mo_tellRun 4 none ∈ lw_good := ga_12 166 rfl rfl
theorem im_mo_tellRun : Cond.instanceMethod y_mo_tellRun ∈ lw_good := ga_12 165 rfl rfl
theorem se_mo_tellRun : Cond.selects R_mo y_mo_tellRun y_mo_tellRun ∈ lw_good := good_sel (q := (y_mo_tellRun, 166)) (pv_15 (List.mem_of_getElem? (i := 5) rfl)) rfl
theorem cd_mo_tellTokens : Cond.code y_mo_tellTokens b_mo_tellTokens 5 none ∈ lw_good := ga_12 170 rfl rfl
theorem im_mo_tellTokens : Cond.instanceMethod y_mo_tellTokens ∈ lw_good := ga_12 169 rfl rfl
theorem se_mo_tellTokens : Cond.selects R_mo y_mo_tellTokens y_mo_tellTokens ∈ lw_good := good_sel (q := (y_mo_tellTokens, 166)) (pv_15 (List.mem_of_getElem? (i := 6) rfl)) rfl
theorem cd_mo_doPlural : Cond.code y_mo_doPlural b_mo_doPlural 6 none ∈ lw_good := ga_12 174 rfl rfl
theorem im_mo_doPlural : Cond.instanceMethod y_mo_doPlural ∈ lw_good := ga_12 173 rfl rfl
theorem se_mo_doPlural : Cond.selects R_mo y_mo_doPlural y_mo_doPlural ∈ lw_good := good_sel (q := (y_mo_doPlural, 166)) (pv_15 (List.mem_of_getElem? (i := 7) rfl)) rfl
theorem cd_mo_doProperty : Cond.code y_mo_doProperty b_mo_doProperty 4 none ∈ lw_good := ga_12 178 rfl rfl
theorem im_mo_doProperty : Cond.instanceMethod y_mo_doProperty ∈ lw_good := ga_12 177 rfl rfl
theorem se_mo_doProperty : Cond.selects R_mo y_mo_doProperty y_mo_doProperty ∈ lw_good := good_sel (q := (y_mo_doProperty, 166)) (pv_15 (List.mem_of_getElem? (i := 8) rfl)) rfl
theorem cd_mo_tellKind : Cond.code y_mo_tellKind b_mo_tellKind 6 (some .boolean) ∈ lw_good := ga_12 182 rfl rfl
theorem im_mo_tellKind : Cond.instanceMethod y_mo_tellKind ∈ lw_good := ga_12 181 rfl rfl
theorem se_mo_tellKind : Cond.selects R_mo y_mo_tellKind y_mo_tellKind ∈ lw_good := good_sel (q := (y_mo_tellKind, 166)) (pv_15 (List.mem_of_getElem? (i := 9) rfl)) rfl
theorem cd_mo_doKinds : Cond.code y_mo_doKinds b_mo_doKinds 19 none ∈ lw_good := ga_12 186 rfl rfl
theorem im_mo_doKinds : Cond.instanceMethod y_mo_doKinds ∈ lw_good := ga_12 185 rfl rfl
theorem se_mo_doKinds : Cond.selects R_mo y_mo_doKinds y_mo_doKinds ∈ lw_good := good_sel (q := (y_mo_doKinds, 166)) (pv_15 (List.mem_of_getElem? (i := 10) rfl)) rfl
theorem cd_mo_doDescribed : Cond.code y_mo_doDescribed b_mo_doDescribed 5 none ∈ lw_good := ga_12 190 rfl rfl
theorem im_mo_doDescribed : Cond.instanceMethod y_mo_doDescribed ∈ lw_good := ga_12 189 rfl rfl
theorem se_mo_doDescribed : Cond.selects R_mo y_mo_doDescribed y_mo_doDescribed ∈ lw_good := good_sel (q := (y_mo_doDescribed, 166)) (pv_15 (List.mem_of_getElem? (i := 11) rfl)) rfl
theorem cd_mo_objectTold : Cond.code y_mo_objectTold b_mo_objectTold 4 (some .int) ∈ lw_good := ga_12 194 rfl rfl
theorem im_mo_objectTold : Cond.instanceMethod y_mo_objectTold ∈ lw_good := ga_12 193 rfl rfl
theorem se_mo_objectTold : Cond.selects R_mo y_mo_objectTold y_mo_objectTold ∈ lw_good := good_sel (q := (y_mo_objectTold, 166)) (pv_15 (List.mem_of_getElem? (i := 12) rfl)) rfl
theorem cd_mo_tellRead : Cond.code y_mo_tellRead b_mo_tellRead 4 (some .boolean) ∈ lw_good := ga_12 198 rfl rfl
theorem im_mo_tellRead : Cond.instanceMethod y_mo_tellRead ∈ lw_good := ga_12 197 rfl rfl
theorem se_mo_tellRead : Cond.selects R_mo y_mo_tellRead y_mo_tellRead ∈ lw_good := good_sel (q := (y_mo_tellRead, 166)) (pv_15 (List.mem_of_getElem? (i := 13) rfl)) rfl
theorem cd_mo_tellIs : Cond.code y_mo_tellIs b_mo_tellIs 6 (some .boolean) ∈ lw_good := ga_12 202 rfl rfl
theorem im_mo_tellIs : Cond.instanceMethod y_mo_tellIs ∈ lw_good := ga_12 201 rfl rfl
theorem se_mo_tellIs : Cond.selects R_mo y_mo_tellIs y_mo_tellIs ∈ lw_good := good_sel (q := (y_mo_tellIs, 166)) (pv_15 (List.mem_of_getElem? (i := 14) rfl)) rfl
theorem cd_mo_placeObject : Cond.code y_mo_placeObject b_mo_placeObject 4 none ∈ lw_good := ga_12 206 rfl rfl
theorem im_mo_placeObject : Cond.instanceMethod y_mo_placeObject ∈ lw_good := ga_12 205 rfl rfl
theorem se_mo_placeObject : Cond.selects R_mo y_mo_placeObject y_mo_placeObject ∈ lw_good := good_sel (q := (y_mo_placeObject, 166)) (pv_15 (List.mem_of_getElem? (i := 15) rfl)) rfl
theorem cd_mo_isWithin : Cond.code y_mo_isWithin b_mo_isWithin 5 (some .boolean) ∈ lw_good := ga_12 210 rfl rfl
theorem im_mo_isWithin : Cond.instanceMethod y_mo_isWithin ∈ lw_good := ga_12 209 rfl rfl
theorem se_mo_isWithin : Cond.selects R_mo y_mo_isWithin y_mo_isWithin ∈ lw_good := good_sel (q := (y_mo_isWithin, 166)) (pv_16 (List.mem_of_getElem? (i := 0) rfl)) rfl
theorem cd_mo_doWay : Cond.code y_mo_doWay b_mo_doWay 5 none ∈ lw_good := ga_12 214 rfl rfl
theorem im_mo_doWay : Cond.instanceMethod y_mo_doWay ∈ lw_good := ga_12 213 rfl rfl
theorem se_mo_doWay : Cond.selects R_mo y_mo_doWay y_mo_doWay ∈ lw_good := good_sel (q := (y_mo_doWay, 166)) (pv_16 (List.mem_of_getElem? (i := 1) rfl)) rfl
theorem cd_mo_doFifteen : Cond.code y_mo_doFifteen b_mo_doFifteen 5 none ∈ lw_good := ga_12 218 rfl rfl
theorem im_mo_doFifteen : Cond.instanceMethod y_mo_doFifteen ∈ lw_good := ga_12 217 rfl rfl
theorem se_mo_doFifteen : Cond.selects R_mo y_mo_doFifteen y_mo_doFifteen ∈ lw_good := good_sel (q := (y_mo_doFifteen, 166)) (pv_16 (List.mem_of_getElem? (i := 2) rfl)) rfl
theorem cd_mo_doHas : Cond.code y_mo_doHas b_mo_doHas 4 none ∈ lw_good := ga_12 222 rfl rfl
theorem im_mo_doHas : Cond.instanceMethod y_mo_doHas ∈ lw_good := ga_12 221 rfl rfl
theorem se_mo_doHas : Cond.selects R_mo y_mo_doHas y_mo_doHas ∈ lw_good := good_sel (q := (y_mo_doHas, 166)) (pv_16 (List.mem_of_getElem? (i := 3) rfl)) rfl
theorem cd_mo_doSaying : Cond.code y_mo_doSaying b_mo_doSaying 4 none ∈ lw_good := ga_12 226 rfl rfl
theorem im_mo_doSaying : Cond.instanceMethod y_mo_doSaying ∈ lw_good := ga_12 225 rfl rfl
theorem se_mo_doSaying : Cond.selects R_mo y_mo_doSaying y_mo_doSaying ∈ lw_good := good_sel (q := (y_mo_doSaying, 166)) (pv_16 (List.mem_of_getElem? (i := 4) rfl)) rfl
theorem cd_mo_relate : Cond.code y_mo_relate b_mo_relate 5 (some .boolean) ∈ lw_good := ga_12 230 rfl rfl
theorem im_mo_relate : Cond.instanceMethod y_mo_relate ∈ lw_good := ga_12 229 rfl rfl
theorem se_mo_relate : Cond.selects R_mo y_mo_relate y_mo_relate ∈ lw_good := good_sel (q := (y_mo_relate, 166)) (pv_16 (List.mem_of_getElem? (i := 5) rfl)) rfl
theorem cd_mo_fault : Cond.code y_mo_fault b_mo_fault 1 (some .int) ∈ lw_good := ga_12 234 rfl rfl
theorem im_mo_fault : Cond.instanceMethod y_mo_fault ∈ lw_good := ga_12 232 rfl rfl
theorem se_mo_fault : Cond.selects R_mo y_mo_fault y_mo_fault ∈ lw_good := ga_12 233 rfl rfl
theorem cd_mo_act : Cond.code y_mo_act b_mo_act 8 (some .int) ∈ lw_good := ga_12 238 rfl rfl
theorem im_mo_act : Cond.instanceMethod y_mo_act ∈ lw_good := ga_12 236 rfl rfl
theorem se_mo_act : Cond.selects R_mo y_mo_act y_mo_act ∈ lw_good := ga_12 237 rfl rfl
theorem cd_mo_action : Cond.code y_mo_action b_mo_action 7 (some .int) ∈ lw_good := ga_13 2 rfl rfl
theorem im_mo_action : Cond.instanceMethod y_mo_action ∈ lw_good := ga_13 1 rfl rfl
theorem se_mo_action : Cond.selects R_mo y_mo_action y_mo_action ∈ lw_good := good_sel (q := (y_mo_action, 166)) (pv_16 (List.mem_of_getElem? (i := 6) rfl)) rfl
theorem cd_mo_ruleAt : Cond.code y_mo_ruleAt b_mo_ruleAt 4 (some .int) ∈ lw_good := ga_13 6 rfl rfl
theorem im_mo_ruleAt : Cond.instanceMethod y_mo_ruleAt ∈ lw_good := ga_13 5 rfl rfl
theorem se_mo_ruleAt : Cond.selects R_mo y_mo_ruleAt y_mo_ruleAt ∈ lw_good := good_sel (q := (y_mo_ruleAt, 166)) (pv_16 (List.mem_of_getElem? (i := 7) rfl)) rfl
theorem cd_mo_orderOf : Cond.code y_mo_orderOf b_mo_orderOf 4 (some .int) ∈ lw_good := ga_13 10 rfl rfl
theorem im_mo_orderOf : Cond.instanceMethod y_mo_orderOf ∈ lw_good := ga_13 9 rfl rfl
theorem se_mo_orderOf : Cond.selects R_mo y_mo_orderOf y_mo_orderOf ∈ lw_good := good_sel (q := (y_mo_orderOf, 166)) (pv_16 (List.mem_of_getElem? (i := 8) rfl)) rfl
theorem cd_mo_isAhead : Cond.code y_mo_isAhead b_mo_isAhead 3 (some .boolean) ∈ lw_good := ga_13 14 rfl rfl
theorem im_mo_isAhead : Cond.instanceMethod y_mo_isAhead ∈ lw_good := ga_13 13 rfl rfl
theorem se_mo_isAhead : Cond.selects R_mo y_mo_isAhead y_mo_isAhead ∈ lw_good := good_sel (q := (y_mo_isAhead, 166)) (pv_16 (List.mem_of_getElem? (i := 9) rfl)) rfl
theorem cd_mo_orderClass : Cond.code y_mo_orderClass b_mo_orderClass 2 (some .int) ∈ lw_good := ga_13 18 rfl rfl
theorem im_mo_orderClass : Cond.instanceMethod y_mo_orderClass ∈ lw_good := ga_13 17 rfl rfl
theorem se_mo_orderClass : Cond.selects R_mo y_mo_orderClass y_mo_orderClass ∈ lw_good := good_sel (q := (y_mo_orderClass, 166)) (pv_16 (List.mem_of_getElem? (i := 10) rfl)) rfl
theorem cd_mo_depthOf : Cond.code y_mo_depthOf b_mo_depthOf 4 (some .int) ∈ lw_good := ga_13 22 rfl rfl
theorem im_mo_depthOf : Cond.instanceMethod y_mo_depthOf ∈ lw_good := ga_13 21 rfl rfl
theorem se_mo_depthOf : Cond.selects R_mo y_mo_depthOf y_mo_depthOf ∈ lw_good := good_sel (q := (y_mo_depthOf, 166)) (pv_16 (List.mem_of_getElem? (i := 11) rfl)) rfl
theorem cd_mo_applies : Cond.code y_mo_applies b_mo_applies 6 (some .boolean) ∈ lw_good := ga_13 26 rfl rfl
theorem im_mo_applies : Cond.instanceMethod y_mo_applies ∈ lw_good := ga_13 25 rfl rfl
theorem se_mo_applies : Cond.selects R_mo y_mo_applies y_mo_applies ∈ lw_good := good_sel (q := (y_mo_applies, 166)) (pv_16 (List.mem_of_getElem? (i := 12) rfl)) rfl
theorem cd_mo_holds : Cond.code y_mo_holds b_mo_holds 6 (some .boolean) ∈ lw_good := ga_13 30 rfl rfl
theorem im_mo_holds : Cond.instanceMethod y_mo_holds ∈ lw_good := ga_13 29 rfl rfl
theorem se_mo_holds : Cond.selects R_mo y_mo_holds y_mo_holds ∈ lw_good := good_sel (q := (y_mo_holds, 166)) (pv_16 (List.mem_of_getElem? (i := 13) rfl)) rfl
theorem cd_mo_tested : Cond.code y_mo_tested b_mo_tested 9 (some .boolean) ∈ lw_good := ga_13 34 rfl rfl
theorem im_mo_tested : Cond.instanceMethod y_mo_tested ∈ lw_good := ga_13 33 rfl rfl
theorem se_mo_tested : Cond.selects R_mo y_mo_tested y_mo_tested ∈ lw_good := good_sel (q := (y_mo_tested, 166)) (pv_16 (List.mem_of_getElem? (i := 14) rfl)) rfl
theorem cd_mo_thingIs : Cond.code y_mo_thingIs b_mo_thingIs 3 (some .int) ∈ lw_good := ga_13 37 rfl rfl
theorem st_mo_thingIs : Cond.static y_mo_thingIs ∈ lw_good := ga_13 36 rfl rfl
theorem cd_mo_runs : Cond.code y_mo_runs b_mo_runs 6 (some .boolean) ∈ lw_good := ga_13 41 rfl rfl
theorem im_mo_runs : Cond.instanceMethod y_mo_runs ∈ lw_good := ga_13 40 rfl rfl
theorem se_mo_runs : Cond.selects R_mo y_mo_runs y_mo_runs ∈ lw_good := good_sel (q := (y_mo_runs, 166)) (pv_16 (List.mem_of_getElem? (i := 15) rfl)) rfl
theorem cd_mo_nows : Cond.code y_mo_nows b_mo_nows 7 none ∈ lw_good := ga_13 45 rfl rfl
theorem im_mo_nows : Cond.instanceMethod y_mo_nows ∈ lw_good := ga_13 44 rfl rfl
theorem se_mo_nows : Cond.selects R_mo y_mo_nows y_mo_nows ∈ lw_good := good_sel (q := (y_mo_nows, 166)) (pv_17 (List.mem_of_getElem? (i := 0) rfl)) rfl
theorem cd_mo_moves : Cond.code y_mo_moves b_mo_moves 3 none ∈ lw_good := ga_13 49 rfl rfl
theorem im_mo_moves : Cond.instanceMethod y_mo_moves ∈ lw_good := ga_13 48 rfl rfl
theorem se_mo_moves : Cond.selects R_mo y_mo_moves y_mo_moves ∈ lw_good := good_sel (q := (y_mo_moves, 166)) (pv_17 (List.mem_of_getElem? (i := 1) rfl)) rfl
theorem cd_mo_adds : Cond.code y_mo_adds b_mo_adds 7 none ∈ lw_good := ga_13 53 rfl rfl
theorem im_mo_adds : Cond.instanceMethod y_mo_adds ∈ lw_good := ga_13 52 rfl rfl
theorem se_mo_adds : Cond.selects R_mo y_mo_adds y_mo_adds ∈ lw_good := good_sel (q := (y_mo_adds, 166)) (pv_17 (List.mem_of_getElem? (i := 2) rfl)) rfl
theorem cd_mo_tries : Cond.code y_mo_tries b_mo_tries 6 none ∈ lw_good := ga_13 59 rfl rfl
theorem im_mo_tries : Cond.instanceMethod y_mo_tries ∈ lw_good := ga_13 58 rfl rfl
theorem se_mo_tries : Cond.selects R_mo y_mo_tries y_mo_tries ∈ lw_good := good_sel (q := (y_mo_tries, 166)) (pv_17 (List.mem_of_getElem? (i := 3) rfl)) rfl
theorem cd_mo_does_2 : Cond.code y_mo_does_2 b_mo_does_2 4 (some .boolean) ∈ lw_good := ga_13 63 rfl rfl
theorem im_mo_does_2 : Cond.instanceMethod y_mo_does_2 ∈ lw_good := ga_13 62 rfl rfl
theorem se_mo_does_2 : Cond.selects R_mo y_mo_does_2 y_mo_does_2 ∈ lw_good := good_sel (q := (y_mo_does_2, 166)) (pv_17 (List.mem_of_getElem? (i := 4) rfl)) rfl
theorem cd_mo_isHeld : Cond.code y_mo_isHeld b_mo_isHeld 2 (some .boolean) ∈ lw_good := ga_13 67 rfl rfl
theorem im_mo_isHeld : Cond.instanceMethod y_mo_isHeld ∈ lw_good := ga_13 66 rfl rfl
theorem se_mo_isHeld : Cond.selects R_mo y_mo_isHeld y_mo_isHeld ∈ lw_good := good_sel (q := (y_mo_isHeld, 166)) (pv_17 (List.mem_of_getElem? (i := 5) rfl)) rfl
theorem cd_mo_leadsTo : Cond.code y_mo_leadsTo b_mo_leadsTo 4 (some .int) ∈ lw_good := ga_13 71 rfl rfl
theorem im_mo_leadsTo : Cond.instanceMethod y_mo_leadsTo ∈ lw_good := ga_13 70 rfl rfl
theorem se_mo_leadsTo : Cond.selects R_mo y_mo_leadsTo y_mo_leadsTo ∈ lw_good := good_sel (q := (y_mo_leadsTo, 166)) (pv_17 (List.mem_of_getElem? (i := 6) rfl)) rfl
theorem cd_mo_command : Cond.code y_mo_command b_mo_command 3 (some .int) ∈ lw_good := ga_13 75 rfl rfl
theorem im_mo_command : Cond.instanceMethod y_mo_command ∈ lw_good := ga_13 73 rfl rfl
theorem se_mo_command : Cond.selects R_mo y_mo_command y_mo_command ∈ lw_good := ga_13 74 rfl rfl
theorem cd_mo_isSaid : Cond.code y_mo_isSaid b_mo_isSaid 3 (some .boolean) ∈ lw_good := ga_13 79 rfl rfl
theorem im_mo_isSaid : Cond.instanceMethod y_mo_isSaid ∈ lw_good := ga_13 78 rfl rfl
theorem se_mo_isSaid : Cond.selects R_mo y_mo_isSaid y_mo_isSaid ∈ lw_good := good_sel (q := (y_mo_isSaid, 166)) (pv_17 (List.mem_of_getElem? (i := 7) rfl)) rfl
theorem cd_mo_fitsCommand : Cond.code y_mo_fitsCommand b_mo_fitsCommand 9 (some .boolean) ∈ lw_good := ga_13 83 rfl rfl
theorem im_mo_fitsCommand : Cond.instanceMethod y_mo_fitsCommand ∈ lw_good := ga_13 82 rfl rfl
theorem se_mo_fitsCommand : Cond.selects R_mo y_mo_fitsCommand y_mo_fitsCommand ∈ lw_good := good_sel (q := (y_mo_fitsCommand, 166)) (pv_17 (List.mem_of_getElem? (i := 8) rfl)) rfl
theorem cd_mo_told : Cond.code y_mo_told b_mo_told 2 (some .int) ∈ lw_good := ga_13 88 rfl rfl
theorem im_mo_told : Cond.instanceMethod y_mo_told ∈ lw_good := ga_13 86 rfl rfl
theorem se_mo_told : Cond.selects R_mo y_mo_told y_mo_told ∈ lw_good := ga_13 87 rfl rfl
theorem cd_mo_name_2 : Cond.code y_mo_name_2 b_mo_name_2 7 (some .int) ∈ lw_good := ga_13 92 rfl rfl
theorem im_mo_name_2 : Cond.instanceMethod y_mo_name_2 ∈ lw_good := ga_13 90 rfl rfl
theorem se_mo_name_2 : Cond.selects R_mo y_mo_name_2 y_mo_name_2 ∈ lw_good := ga_13 91 rfl rfl
theorem cd_mo_kind : Cond.code y_mo_kind b_mo_kind 5 (some .int) ∈ lw_good := ga_13 97 rfl rfl
theorem im_mo_kind : Cond.instanceMethod y_mo_kind ∈ lw_good := ga_13 95 rfl rfl
theorem se_mo_kind : Cond.selects R_mo y_mo_kind y_mo_kind ∈ lw_good := ga_13 96 rfl rfl
theorem cd_mo_object : Cond.code y_mo_object b_mo_object 3 (some .int) ∈ lw_good := ga_13 101 rfl rfl
theorem im_mo_object : Cond.instanceMethod y_mo_object ∈ lw_good := ga_13 99 rfl rfl
theorem se_mo_object : Cond.selects R_mo y_mo_object y_mo_object ∈ lw_good := ga_13 100 rfl rfl
theorem cd_mo_is : Cond.code y_mo_is b_mo_is 3 (some .int) ∈ lw_good := ga_13 105 rfl rfl
theorem im_mo_is : Cond.instanceMethod y_mo_is ∈ lw_good := ga_13 103 rfl rfl
theorem se_mo_is : Cond.selects R_mo y_mo_is y_mo_is ∈ lw_good := ga_13 104 rfl rfl
theorem cd_mo_property_2 : Cond.code y_mo_property_2 b_mo_property_2 4 (some .int) ∈ lw_good := ga_13 109 rfl rfl
theorem im_mo_property_2 : Cond.instanceMethod y_mo_property_2 ∈ lw_good := ga_13 107 rfl rfl
theorem se_mo_property_2 : Cond.selects R_mo y_mo_property_2 y_mo_property_2 ∈ lw_good := ga_13 108 rfl rfl
theorem cd_mo_isProperty : Cond.code y_mo_isProperty b_mo_isProperty 3 (some .boolean) ∈ lw_good := ga_13 113 rfl rfl
theorem im_mo_isProperty : Cond.instanceMethod y_mo_isProperty ∈ lw_good := ga_13 112 rfl rfl
theorem se_mo_isProperty : Cond.selects R_mo y_mo_isProperty y_mo_isProperty ∈ lw_good := good_sel (q := (y_mo_isProperty, 166)) (pv_17 (List.mem_of_getElem? (i := 9) rfl)) rfl
theorem cd_mo_letter : Cond.code y_mo_letter b_mo_letter 5 (some .int) ∈ lw_good := ga_13 117 rfl rfl
theorem im_mo_letter : Cond.instanceMethod y_mo_letter ∈ lw_good := ga_13 115 rfl rfl
theorem se_mo_letter : Cond.selects R_mo y_mo_letter y_mo_letter ∈ lw_good := ga_13 116 rfl rfl
theorem cd_mo_leads : Cond.code y_mo_leads b_mo_leads 3 (some .int) ∈ lw_good := ga_13 121 rfl rfl
theorem im_mo_leads : Cond.instanceMethod y_mo_leads ∈ lw_good := ga_13 119 rfl rfl
theorem se_mo_leads : Cond.selects R_mo y_mo_leads y_mo_leads ∈ lw_good := ga_13 120 rfl rfl
theorem cd_mo_related : Cond.code y_mo_related b_mo_related 4 (some .boolean) ∈ lw_good := ga_13 125 rfl rfl
theorem im_mo_related : Cond.instanceMethod y_mo_related ∈ lw_good := ga_13 123 rfl rfl
theorem se_mo_related : Cond.selects R_mo y_mo_related y_mo_related ∈ lw_good := ga_13 124 rfl rfl
theorem cd_mo_rule_2 : Cond.code y_mo_rule_2 b_mo_rule_2 3 (some .int) ∈ lw_good := ga_13 129 rfl rfl
theorem im_mo_rule_2 : Cond.instanceMethod y_mo_rule_2 ∈ lw_good := ga_13 127 rfl rfl
theorem se_mo_rule_2 : Cond.selects R_mo y_mo_rule_2 y_mo_rule_2 ∈ lw_good := ga_13 128 rfl rfl
theorem cd_mo_outs : Cond.code y_mo_outs b_mo_outs 1 (some .int) ∈ lw_good := ga_13 133 rfl rfl
theorem im_mo_outs : Cond.instanceMethod y_mo_outs ∈ lw_good := ga_13 131 rfl rfl
theorem se_mo_outs : Cond.selects R_mo y_mo_outs y_mo_outs ∈ lw_good := ga_13 132 rfl rfl
theorem cd_mo_out : Cond.code y_mo_out b_mo_out 2 (some .int) ∈ lw_good := ga_13 137 rfl rfl
theorem im_mo_out : Cond.instanceMethod y_mo_out ∈ lw_good := ga_13 135 rfl rfl
theorem se_mo_out : Cond.selects R_mo y_mo_out y_mo_out ∈ lw_good := ga_13 136 rfl rfl
theorem cd_mo_clear : Cond.code y_mo_clear b_mo_clear 2 (some .int) ∈ lw_good := ga_13 141 rfl rfl
theorem im_mo_clear : Cond.instanceMethod y_mo_clear ∈ lw_good := ga_13 139 rfl rfl
theorem se_mo_clear : Cond.selects R_mo y_mo_clear y_mo_clear ∈ lw_good := ga_13 140 rfl rfl
theorem cd_jm_abs : Cond.code y_jm_abs b_jm_abs 1 (some .int) ∈ lw_good := ga_7 238 rfl rfl
theorem st_jm_abs : Cond.static y_jm_abs ∈ lw_good := ga_7 237 rfl rfl
theorem cd_jm_max : Cond.code y_jm_max b_jm_max 2 (some .int) ∈ lw_good := ga_8 22 rfl rfl
theorem st_jm_max : Cond.static y_jm_max ∈ lw_good := ga_8 21 rfl rfl
theorem cd_jm_min : Cond.code y_jm_min b_jm_min 2 (some .int) ∈ lw_good := ga_8 19 rfl rfl
theorem st_jm_min : Cond.static y_jm_min ∈ lw_good := ga_8 18 rfl rfl
theorem cd_ji_bitCount : Cond.code y_ji_bitCount b_ji_bitCount 1 (some .int) ∈ lw_good := ga_7 82 rfl rfl
theorem st_ji_bitCount : Cond.static y_ji_bitCount ∈ lw_good := ga_7 81 rfl rfl
theorem cd_js_length : Cond.code y_js_length b_js_length 1 (some .int) ∈ lw_good := ga_2 56 rfl rfl
theorem im_js_length : Cond.instanceMethod y_js_length ∈ lw_good := ga_2 54 rfl rfl
theorem se_js_length : Cond.selects "java/lang/String" y_js_length y_js_length ∈ lw_good := ga_2 55 rfl rfl
theorem cd_js_coder : Cond.code y_js_coder b_js_coder 1 (some .byte) ∈ lw_good := ga_2 60 rfl rfl
theorem im_js_coder : Cond.instanceMethod y_js_coder ∈ lw_good := ga_2 58 rfl rfl
theorem se_js_coder : Cond.selects "java/lang/String" y_js_coder y_js_coder ∈ lw_good := ga_2 59 rfl rfl
theorem cd_js_charAt : Cond.code y_js_charAt b_js_charAt 2 (some .char) ∈ lw_good := ga_2 66 rfl rfl
theorem im_js_charAt : Cond.instanceMethod y_js_charAt ∈ lw_good := ga_2 64 rfl rfl
theorem se_js_charAt : Cond.selects "java/lang/String" y_js_charAt y_js_charAt ∈ lw_good := ga_2 65 rfl rfl
theorem cd_js_isLatin1 : Cond.code y_js_isLatin1 b_js_isLatin1 1 (some .boolean) ∈ lw_good := ga_2 70 rfl rfl
theorem im_js_isLatin1 : Cond.instanceMethod y_js_isLatin1 ∈ lw_good := ga_2 68 rfl rfl
theorem se_js_isLatin1 : Cond.selects "java/lang/String" y_js_isLatin1 y_js_isLatin1 ∈ lw_good := ga_2 69 rfl rfl
theorem cd_jl_charAt : Cond.code y_jl_charAt b_jl_charAt 2 (some .char) ∈ lw_good := ga_2 73 rfl rfl
theorem st_jl_charAt : Cond.static y_jl_charAt ∈ lw_good := ga_2 72 rfl rfl
