/-! THE LAW'S LOOP -/
theorem xs_r (v : Int32) : -2147483648 ≤ v.toInt ∧ v.toInt ≤ 2147483647 := ⟨Int32.le_toInt _, by have := Int32.toInt_lt v; omega⟩
set_option maxRecDepth 100000 in
set_option maxHeartbeats 4000000 in
theorem case_0 {sl : Nat} {xs : Nat → Int32} (hsl : sl ≤ 2048) (i : Int) (S : sS) (hI : INV S) (hq : Xi S 0 10 = Xi S 904 1) (h0 : 0 ≤ i) (h1 : i ≤ 2100) (hi4 : i + 4 ≤ sl) (ih : ∀ m, m < (3000 - i).toNat → ∀ (i : Int) (S : sS), INV S → Xi S 0 10 = Xi S 904 1 → 0 ≤ i → i ≤ 2100 → m = (3000 - i).toNat → LWK sl xs 100 18 [(0, .ref SCR), (1, .ref 0), (2, .ref 904), (3, iv i)] [] S) : LWK sl xs 100 124 [(0, .ref SCR), (1, .ref 0), (2, .ref 904), (3, iv i)] [] S := by
  refine r_aload_n rfl rfl ?_
  refine r_aload_n rfl rfl ?_
  refine r_iload_n rfl rfl ?_
  refine r_iconst rfl ?_
  refine r_iadd rfl ?_
  refine r_scr rfl (by omega) (by omega) (by unfold rg; omega) ?_
  have f6 := xs_r (xs ((i + 1)).toNat)
  refine r_i2l rfl (by unfold rg; omega) ?_
  refine r_bipush rfl rfl ?_
  refine r_lshlF rfl ?_
  refine r_aload_n rfl rfl ?_
  refine r_iload_n rfl rfl ?_
  refine r_iconst rfl ?_
  refine r_iadd rfl ?_
  refine r_scr rfl (by omega) (by omega) (by unfold rg; omega) ?_
  have f7 := xs_r (xs ((i + 2)).toNat)
  refine r_i2l rfl (by unfold rg; omega) ?_
  refine r_ldc2 (z := 4294967295) rfl rfl ?_
  refine r_landF rfl ?_
  refine r_lorF rfl ?_
  refine r_aload_n rfl rfl ?_
  refine r_iload_n rfl rfl ?_
  refine r_iconst rfl ?_
  refine r_iadd rfl ?_
  refine r_scr rfl (by omega) (by omega) (by unfold rg; omega) ?_
  have f8 := xs_r (xs ((i + 3)).toNat)
  have K9 := hI
  obtain ⟨hH, ⟨ts, tq, hc⟩, hm⟩ := K9
  refine r_call rfl rfl rfl (t_rs_feed__2 hH ts ((lorF (lshlF (xs ((i + 1)).toNat).toInt 32) (landF (xs ((i + 2)).toNat).toInt 4294967295))) ((xs ((i + 3)).toNat).toInt) ⟨by omega, by omega⟩ hc.1.1 hc.1.2.2.1 99) ?_
  intro T15r T15 q16
  have J17 := cl_rs_feed__2 hI hc.1.1 q16
  obtain ⟨hHT15, fFT15, z10, rfl, g14, p11, p12, p13⟩ := q16
  have e18 := J17.2
  replace J17 := J17.1
  show LWK _ _ _ _ _ [iv z10] _
  refine r_pop rfl rfl ?_
  refine r_aload_n rfl rfl ?_
  refine r_aload_n rfl rfl ?_
  refine r_iload_n rfl rfl ?_
  refine r_iconst rfl ?_
  refine r_iadd rfl ?_
  refine r_scr rfl (by omega) (by omega) (by unfold rg; omega) ?_
  have f19 := xs_r (xs ((i + 1)).toNat)
  refine r_i2l rfl (by unfold rg; omega) ?_
  refine r_bipush rfl rfl ?_
  refine r_lshlF rfl ?_
  refine r_aload_n rfl rfl ?_
  refine r_iload_n rfl rfl ?_
  refine r_iconst rfl ?_
  refine r_iadd rfl ?_
  refine r_scr rfl (by omega) (by omega) (by unfold rg; omega) ?_
  have f20 := xs_r (xs ((i + 2)).toNat)
  refine r_i2l rfl (by unfold rg; omega) ?_
  refine r_ldc2 (z := 4294967295) rfl rfl ?_
  refine r_landF rfl ?_
  refine r_lorF rfl ?_
  refine r_aload_n rfl rfl ?_
  refine r_iload_n rfl rfl ?_
  refine r_iconst rfl ?_
  refine r_iadd rfl ?_
  refine r_scr rfl (by omega) (by omega) (by unfold rg; omega) ?_
  have f21 := xs_r (xs ((i + 3)).toNat)
  have K22 := J17
  obtain ⟨hH, ⟨ts, tq, hc⟩, hm⟩ := K22
  refine r_call rfl rfl rfl (t_mo_feed hH ((lorF (lshlF (xs ((i + 1)).toNat).toInt 32) (landF (xs ((i + 2)).toNat).toInt 4294967295))) ((xs ((i + 3)).toNat).toInt) ⟨by omega, by omega⟩ 99) ?_
  intro T27r T27 q28
  have J29 := lm_mo_feed J17 q28
  obtain ⟨hHT27, fFT27, z23, rfl, g26, p24, p25⟩ := q28
  have e30 := J29.2
  replace J29 := J29.1
  show LWK _ _ _ _ _ [iv z23] _
  refine r_pop rfl rfl ?_
  refine r_goto rfl rfl ?_
  refine r_iinc rfl rfl rfl rfl ?_
  refine r_goto rfl rfl ?_
  exact LWK_weak (ih _ (by omega) (i + 4) T27 J29 (by omega) (by omega) (by omega) rfl) (And.intro rfl (And.intro rfl (And.intro rfl (And.intro rfl True.intro))))
set_option maxRecDepth 100000 in
set_option maxHeartbeats 4000000 in
theorem case_1 {sl : Nat} {xs : Nat → Int32} (hsl : sl ≤ 2048) (i : Int) (S : sS) (hI : INV S) (hq : Xi S 0 10 = Xi S 904 1) (h0 : 0 ≤ i) (h1 : i ≤ 2100) (hi4 : i + 4 ≤ sl) (ih : ∀ m, m < (3000 - i).toNat → ∀ (i : Int) (S : sS), INV S → Xi S 0 10 = Xi S 904 1 → 0 ≤ i → i ≤ 2100 → m = (3000 - i).toNat → LWK sl xs 100 18 [(0, .ref SCR), (1, .ref 0), (2, .ref 904), (3, iv i)] [] S) : LWK sl xs 100 187 [(0, .ref SCR), (1, .ref 0), (2, .ref 904), (3, iv i)] [] S := by
  refine r_aload_n rfl rfl ?_
  have K31 := hI
  obtain ⟨hH, ⟨ts, tq, hc⟩, hm⟩ := K31
  refine r_call rfl rfl rfl (t_rs_wipe hH  99) ?_
  intro T35r T35 q36
  have J37 := cl_rs_wipe hI q36
  obtain ⟨hHT35, fFT35, z32, rfl, g34, p33⟩ := q36
  have e38 := J37.2
  replace J37 := J37.1
  show LWK _ _ _ _ _ [iv z32] _
  refine r_aload_n rfl rfl ?_
  have K39 := J37
  obtain ⟨hH, ⟨ts, tq, hc⟩, hm⟩ := K39
  refine r_call rfl rfl rfl (t_mo_wipe hH  99) ?_
  intro T43r T43 q44
  have J45 := lm_mo_wipe J37 q44
  obtain ⟨hHT43, fFT43, z40, rfl, g42, p41⟩ := q44
  have e46 := J45.2
  replace J45 := J45.1
  show LWK _ _ _ _ _ [iv z40, iv z32] _
  refine r_icmp_eq rfl rfl (by unfold rg; omega) (by unfold rg; omega) (fun w47 => ?_) (fun w48 => absurd (by omega) w48)
  refine r_iinc rfl rfl rfl rfl ?_
  refine r_goto rfl rfl ?_
  exact LWK_weak (ih _ (by omega) (i + 4) T43 J45 (by omega) (by omega) (by omega) rfl) (And.intro rfl (And.intro rfl (And.intro rfl (And.intro rfl True.intro))))
set_option maxRecDepth 100000 in
set_option maxHeartbeats 4000000 in
theorem case_2 {sl : Nat} {xs : Nat → Int32} (hsl : sl ≤ 2048) (i : Int) (S : sS) (hI : INV S) (hq : Xi S 0 10 = Xi S 904 1) (h0 : 0 ≤ i) (h1 : i ≤ 2100) (hi4 : i + 4 ≤ sl) (ih : ∀ m, m < (3000 - i).toNat → ∀ (i : Int) (S : sS), INV S → Xi S 0 10 = Xi S 904 1 → 0 ≤ i → i ≤ 2100 → m = (3000 - i).toNat → LWK sl xs 100 18 [(0, .ref SCR), (1, .ref 0), (2, .ref 904), (3, iv i)] [] S) : LWK sl xs 100 200 [(0, .ref SCR), (1, .ref 0), (2, .ref 904), (3, iv i)] [] S := by
  refine r_aload_n rfl rfl ?_
  have K49 := hI
  obtain ⟨hH, ⟨ts, tq, hc⟩, hm⟩ := K49
  refine r_call rfl rfl rfl (t_rs_read__2 hH ts tq hc.1.1 hc.1.2.1 hc.1.2.2.1 hc.1.2.2.2.1 90) ?_
  intro T59r T59 q60
  have J61 := cl_rs_read__2 hI hc.1.1 hc.1.2.1 q60
  obtain ⟨hHT59, fFT59, z50, rfl, g58, p51, p52, p53, p54, p55, p56, p57⟩ := q60
  have e62 := J61.2
  replace J61 := J61.1
  show LWK _ _ _ _ _ [iv z50] _
  refine r_pop rfl rfl ?_
  refine r_aload_n rfl rfl ?_
  have K63 := J61
  obtain ⟨hH, ⟨ts, tq, hc⟩, hm⟩ := K63
  refine r_call rfl rfl rfl (t_mo_read__2 hH hm.1.2.2.2.2.1 hm.1.2.1 hm.2.2.2 hm.2.1 hm.2.2.1 85) ?_
  intro T70r T70 q71
  have J72 := lm_mo_read__2 J61 q71
  obtain ⟨hHT70, fFT70, z64, rfl, g69, p65, p66, p67, p68⟩ := q71
  have e73 := J72.2
  replace J72 := J72.1
  show LWK _ _ _ _ _ [iv z64] _
  refine r_pop rfl rfl ?_
  refine r_goto rfl rfl ?_
  refine r_iinc rfl rfl rfl rfl ?_
  refine r_goto rfl rfl ?_
  exact LWK_weak (ih _ (by omega) (i + 4) T70 J72 (by omega) (by omega) (by omega) rfl) (And.intro rfl (And.intro rfl (And.intro rfl (And.intro rfl True.intro))))
set_option maxRecDepth 100000 in
set_option maxHeartbeats 4000000 in
theorem case_3 {sl : Nat} {xs : Nat → Int32} (hsl : sl ≤ 2048) (i : Int) (S : sS) (hI : INV S) (hq : Xi S 0 10 = Xi S 904 1) (h0 : 0 ≤ i) (h1 : i ≤ 2100) (hi4 : i + 4 ≤ sl) (ih : ∀ m, m < (3000 - i).toNat → ∀ (i : Int) (S : sS), INV S → Xi S 0 10 = Xi S 904 1 → 0 ≤ i → i ≤ 2100 → m = (3000 - i).toNat → LWK sl xs 100 18 [(0, .ref SCR), (1, .ref 0), (2, .ref 904), (3, iv i)] [] S) : LWK sl xs 100 213 [(0, .ref SCR), (1, .ref 0), (2, .ref 904), (3, iv i)] [] S := by
  refine r_aload_n rfl rfl ?_
  have K74 := hI
  obtain ⟨hH, ⟨ts, tq, hc⟩, hm⟩ := K74
  refine r_call rfl rfl rfl (t_rs_fault hH  99) ?_
  rintro _ _ ⟨rfl, z75, rfl, g76⟩
  show LWK _ _ _ _ _ [iv z75] _
  refine r_pop rfl rfl ?_
  refine r_aload_n rfl rfl ?_
  have K77 := hI
  obtain ⟨hH, ⟨ts, tq, hc⟩, hm⟩ := K77
  refine r_call rfl rfl rfl (t_mo_fault hH  99) ?_
  rintro _ _ ⟨rfl, z78, rfl, g79⟩
  show LWK _ _ _ _ _ [iv z78] _
  refine r_pop rfl rfl ?_
  refine r_goto rfl rfl ?_
  refine r_iinc rfl rfl rfl rfl ?_
  refine r_goto rfl rfl ?_
  exact LWK_weak (ih _ (by omega) (i + 4) S hI (by omega) (by omega) (by omega) rfl) (And.intro rfl (And.intro rfl (And.intro rfl (And.intro rfl True.intro))))
set_option maxRecDepth 100000 in
set_option maxHeartbeats 4000000 in
theorem case_4 {sl : Nat} {xs : Nat → Int32} (hsl : sl ≤ 2048) (i : Int) (S : sS) (hI : INV S) (hq : Xi S 0 10 = Xi S 904 1) (h0 : 0 ≤ i) (h1 : i ≤ 2100) (hi4 : i + 4 ≤ sl) (ih : ∀ m, m < (3000 - i).toNat → ∀ (i : Int) (S : sS), INV S → Xi S 0 10 = Xi S 904 1 → 0 ≤ i → i ≤ 2100 → m = (3000 - i).toNat → LWK sl xs 100 18 [(0, .ref SCR), (1, .ref 0), (2, .ref 904), (3, iv i)] [] S) : LWK sl xs 100 226 [(0, .ref SCR), (1, .ref 0), (2, .ref 904), (3, iv i)] [] S := by
  refine r_aload_n rfl rfl ?_
  refine r_aload_n rfl rfl ?_
  refine r_iload_n rfl rfl ?_
  refine r_iconst rfl ?_
  refine r_iadd rfl ?_
  refine r_scr rfl (by omega) (by omega) (by unfold rg; omega) ?_
  have f80 := xs_r (xs ((i + 1)).toNat)
  have K81 := hI
  obtain ⟨hH, ⟨ts, tq, hc⟩, hm⟩ := K81
  refine r_call rfl rfl rfl (t_rs_told hH ((xs ((i + 1)).toNat).toInt) ⟨by omega, by omega⟩ 98) ?_
  rintro _ _ ⟨rfl, z82, rfl, g83⟩
  show LWK _ _ _ _ _ [iv z82] _
  refine r_pop rfl rfl ?_
  refine r_aload_n rfl rfl ?_
  refine r_aload_n rfl rfl ?_
  refine r_iload_n rfl rfl ?_
  refine r_iconst rfl ?_
  refine r_iadd rfl ?_
  refine r_scr rfl (by omega) (by omega) (by unfold rg; omega) ?_
  have f84 := xs_r (xs ((i + 1)).toNat)
  have K85 := hI
  obtain ⟨hH, ⟨ts, tq, hc⟩, hm⟩ := K85
  refine r_call rfl rfl rfl (t_mo_told hH ((xs ((i + 1)).toNat).toInt) ⟨by omega, by omega⟩ 99) ?_
  rintro _ _ ⟨rfl, z86, rfl, g87⟩
  show LWK _ _ _ _ _ [iv z86] _
  refine r_pop rfl rfl ?_
  refine r_goto rfl rfl ?_
  refine r_iinc rfl rfl rfl rfl ?_
  refine r_goto rfl rfl ?_
  exact LWK_weak (ih _ (by omega) (i + 4) S hI (by omega) (by omega) (by omega) rfl) (And.intro rfl (And.intro rfl (And.intro rfl (And.intro rfl True.intro))))
set_option maxRecDepth 100000 in
set_option maxHeartbeats 4000000 in
theorem case_5 {sl : Nat} {xs : Nat → Int32} (hsl : sl ≤ 2048) (i : Int) (S : sS) (hI : INV S) (hq : Xi S 0 10 = Xi S 904 1) (h0 : 0 ≤ i) (h1 : i ≤ 2100) (hi4 : i + 4 ≤ sl) (ih : ∀ m, m < (3000 - i).toNat → ∀ (i : Int) (S : sS), INV S → Xi S 0 10 = Xi S 904 1 → 0 ≤ i → i ≤ 2100 → m = (3000 - i).toNat → LWK sl xs 100 18 [(0, .ref SCR), (1, .ref 0), (2, .ref 904), (3, iv i)] [] S) : LWK sl xs 100 249 [(0, .ref SCR), (1, .ref 0), (2, .ref 904), (3, iv i)] [] S := by
  refine r_aload_n rfl rfl ?_
  refine r_aload_n rfl rfl ?_
  refine r_iload_n rfl rfl ?_
  refine r_iconst rfl ?_
  refine r_iadd rfl ?_
  refine r_scr rfl (by omega) (by omega) (by unfold rg; omega) ?_
  have f88 := xs_r (xs ((i + 1)).toNat)
  refine r_aload_n rfl rfl ?_
  refine r_iload_n rfl rfl ?_
  refine r_iconst rfl ?_
  refine r_iadd rfl ?_
  refine r_scr rfl (by omega) (by omega) (by unfold rg; omega) ?_
  have f89 := xs_r (xs ((i + 2)).toNat)
  refine r_aload_n rfl rfl ?_
  refine r_iload_n rfl rfl ?_
  refine r_iconst rfl ?_
  refine r_iadd rfl ?_
  refine r_scr rfl (by omega) (by omega) (by unfold rg; omega) ?_
  have f90 := xs_r (xs ((i + 3)).toNat)
  have K91 := hI
  obtain ⟨hH, ⟨ts, tq, hc⟩, hm⟩ := K91
  refine r_call rfl rfl rfl (t_rs_name hH ((xs ((i + 1)).toNat).toInt) ((xs ((i + 2)).toNat).toInt) ((xs ((i + 3)).toNat).toInt) ⟨by omega, by omega⟩ ⟨by omega, by omega⟩ ⟨by omega, by omega⟩ 98) ?_
  rintro _ _ ⟨rfl, z92, rfl, g93⟩
  show LWK _ _ _ _ _ [iv z92] _
  refine r_pop rfl rfl ?_
  refine r_aload_n rfl rfl ?_
  refine r_aload_n rfl rfl ?_
  refine r_iload_n rfl rfl ?_
  refine r_iconst rfl ?_
  refine r_iadd rfl ?_
  refine r_scr rfl (by omega) (by omega) (by unfold rg; omega) ?_
  have f94 := xs_r (xs ((i + 1)).toNat)
  refine r_aload_n rfl rfl ?_
  refine r_iload_n rfl rfl ?_
  refine r_iconst rfl ?_
  refine r_iadd rfl ?_
  refine r_scr rfl (by omega) (by omega) (by unfold rg; omega) ?_
  have f95 := xs_r (xs ((i + 2)).toNat)
  refine r_aload_n rfl rfl ?_
  refine r_iload_n rfl rfl ?_
  refine r_iconst rfl ?_
  refine r_iadd rfl ?_
  refine r_scr rfl (by omega) (by omega) (by unfold rg; omega) ?_
  have f96 := xs_r (xs ((i + 3)).toNat)
  have K97 := hI
  obtain ⟨hH, ⟨ts, tq, hc⟩, hm⟩ := K97
  refine r_call rfl rfl rfl (t_mo_name_2 hH ((xs ((i + 1)).toNat).toInt) ((xs ((i + 2)).toNat).toInt) ((xs ((i + 3)).toNat).toInt) ⟨by omega, by omega⟩ ⟨by omega, by omega⟩ ⟨by omega, by omega⟩ 97) ?_
  rintro _ _ ⟨rfl, z98, rfl, g99⟩
  show LWK _ _ _ _ _ [iv z98] _
  refine r_pop rfl rfl ?_
  refine r_goto rfl rfl ?_
  refine r_iinc rfl rfl rfl rfl ?_
  refine r_goto rfl rfl ?_
  exact LWK_weak (ih _ (by omega) (i + 4) S hI (by omega) (by omega) (by omega) rfl) (And.intro rfl (And.intro rfl (And.intro rfl (And.intro rfl True.intro))))
set_option maxRecDepth 100000 in
set_option maxHeartbeats 4000000 in
theorem case_6 {sl : Nat} {xs : Nat → Int32} (hsl : sl ≤ 2048) (i : Int) (S : sS) (hI : INV S) (hq : Xi S 0 10 = Xi S 904 1) (h0 : 0 ≤ i) (h1 : i ≤ 2100) (hi4 : i + 4 ≤ sl) (ih : ∀ m, m < (3000 - i).toNat → ∀ (i : Int) (S : sS), INV S → Xi S 0 10 = Xi S 904 1 → 0 ≤ i → i ≤ 2100 → m = (3000 - i).toNat → LWK sl xs 100 18 [(0, .ref SCR), (1, .ref 0), (2, .ref 904), (3, iv i)] [] S) : LWK sl xs 100 292 [(0, .ref SCR), (1, .ref 0), (2, .ref 904), (3, iv i)] [] S := by
  refine r_aload_n rfl rfl ?_
  refine r_aload_n rfl rfl ?_
  refine r_iload_n rfl rfl ?_
  refine r_iconst rfl ?_
  refine r_iadd rfl ?_
  refine r_scr rfl (by omega) (by omega) (by unfold rg; omega) ?_
  have f100 := xs_r (xs ((i + 1)).toNat)
  refine r_aload_n rfl rfl ?_
  refine r_iload_n rfl rfl ?_
  refine r_iconst rfl ?_
  refine r_iadd rfl ?_
  refine r_scr rfl (by omega) (by omega) (by unfold rg; omega) ?_
  have f101 := xs_r (xs ((i + 2)).toNat)
  have K102 := hI
  obtain ⟨hH, ⟨ts, tq, hc⟩, hm⟩ := K102
  refine r_call rfl rfl rfl (t_rs_kind hH ((xs ((i + 1)).toNat).toInt) ((xs ((i + 2)).toNat).toInt) ⟨by omega, by omega⟩ ⟨by omega, by omega⟩ 97) ?_
  rintro _ _ ⟨rfl, z103, rfl, g104⟩
  show LWK _ _ _ _ _ [iv z103] _
  refine r_pop rfl rfl ?_
  refine r_aload_n rfl rfl ?_
  refine r_aload_n rfl rfl ?_
  refine r_iload_n rfl rfl ?_
  refine r_iconst rfl ?_
  refine r_iadd rfl ?_
  refine r_scr rfl (by omega) (by omega) (by unfold rg; omega) ?_
  have f105 := xs_r (xs ((i + 1)).toNat)
  refine r_aload_n rfl rfl ?_
  refine r_iload_n rfl rfl ?_
  refine r_iconst rfl ?_
  refine r_iadd rfl ?_
  refine r_scr rfl (by omega) (by omega) (by unfold rg; omega) ?_
  have f106 := xs_r (xs ((i + 2)).toNat)
  have K107 := hI
  obtain ⟨hH, ⟨ts, tq, hc⟩, hm⟩ := K107
  refine r_call rfl rfl rfl (t_mo_kind hH ((xs ((i + 1)).toNat).toInt) ((xs ((i + 2)).toNat).toInt) ⟨by omega, by omega⟩ ⟨by omega, by omega⟩ hm.1.2.2.2.2.1 98) ?_
  rintro _ _ ⟨rfl, z108, rfl, g109⟩
  show LWK _ _ _ _ _ [iv z108] _
  refine r_pop rfl rfl ?_
  refine r_goto rfl rfl ?_
  refine r_iinc rfl rfl rfl rfl ?_
  refine r_goto rfl rfl ?_
  exact LWK_weak (ih _ (by omega) (i + 4) S hI (by omega) (by omega) (by omega) rfl) (And.intro rfl (And.intro rfl (And.intro rfl (And.intro rfl True.intro))))
set_option maxRecDepth 100000 in
set_option maxHeartbeats 4000000 in
theorem case_7 {sl : Nat} {xs : Nat → Int32} (hsl : sl ≤ 2048) (i : Int) (S : sS) (hI : INV S) (hq : Xi S 0 10 = Xi S 904 1) (h0 : 0 ≤ i) (h1 : i ≤ 2100) (hi4 : i + 4 ≤ sl) (ih : ∀ m, m < (3000 - i).toNat → ∀ (i : Int) (S : sS), INV S → Xi S 0 10 = Xi S 904 1 → 0 ≤ i → i ≤ 2100 → m = (3000 - i).toNat → LWK sl xs 100 18 [(0, .ref SCR), (1, .ref 0), (2, .ref 904), (3, iv i)] [] S) : LWK sl xs 100 325 [(0, .ref SCR), (1, .ref 0), (2, .ref 904), (3, iv i)] [] S := by
  refine r_aload_n rfl rfl ?_
  refine r_aload_n rfl rfl ?_
  refine r_iload_n rfl rfl ?_
  refine r_iconst rfl ?_
  refine r_iadd rfl ?_
  refine r_scr rfl (by omega) (by omega) (by unfold rg; omega) ?_
  have f110 := xs_r (xs ((i + 1)).toNat)
  refine r_aload_n rfl rfl ?_
  refine r_iload_n rfl rfl ?_
  refine r_iconst rfl ?_
  refine r_iadd rfl ?_
  refine r_scr rfl (by omega) (by omega) (by unfold rg; omega) ?_
  have f111 := xs_r (xs ((i + 2)).toNat)
  have K112 := hI
  obtain ⟨hH, ⟨ts, tq, hc⟩, hm⟩ := K112
  refine r_call rfl rfl rfl (t_rs_object hH ((xs ((i + 1)).toNat).toInt) ((xs ((i + 2)).toNat).toInt) ⟨by omega, by omega⟩ ⟨by omega, by omega⟩ 97) ?_
  rintro _ _ ⟨rfl, z113, rfl, g114⟩
  show LWK _ _ _ _ _ [iv z113] _
  refine r_pop rfl rfl ?_
  refine r_aload_n rfl rfl ?_
  refine r_aload_n rfl rfl ?_
  refine r_iload_n rfl rfl ?_
  refine r_iconst rfl ?_
  refine r_iadd rfl ?_
  refine r_scr rfl (by omega) (by omega) (by unfold rg; omega) ?_
  have f115 := xs_r (xs ((i + 1)).toNat)
  refine r_aload_n rfl rfl ?_
  refine r_iload_n rfl rfl ?_
  refine r_iconst rfl ?_
  refine r_iadd rfl ?_
  refine r_scr rfl (by omega) (by omega) (by unfold rg; omega) ?_
  have f116 := xs_r (xs ((i + 2)).toNat)
  have K117 := hI
  obtain ⟨hH, ⟨ts, tq, hc⟩, hm⟩ := K117
  refine r_call rfl rfl rfl (t_mo_object hH ((xs ((i + 1)).toNat).toInt) ((xs ((i + 2)).toNat).toInt) ⟨by omega, by omega⟩ ⟨by omega, by omega⟩ 98) ?_
  rintro _ _ ⟨rfl, z118, rfl, g119⟩
  show LWK _ _ _ _ _ [iv z118] _
  refine r_pop rfl rfl ?_
  refine r_goto rfl rfl ?_
  refine r_iinc rfl rfl rfl rfl ?_
  refine r_goto rfl rfl ?_
  exact LWK_weak (ih _ (by omega) (i + 4) S hI (by omega) (by omega) (by omega) rfl) (And.intro rfl (And.intro rfl (And.intro rfl (And.intro rfl True.intro))))
set_option maxRecDepth 100000 in
set_option maxHeartbeats 4000000 in
theorem case_8 {sl : Nat} {xs : Nat → Int32} (hsl : sl ≤ 2048) (i : Int) (S : sS) (hI : INV S) (hq : Xi S 0 10 = Xi S 904 1) (h0 : 0 ≤ i) (h1 : i ≤ 2100) (hi4 : i + 4 ≤ sl) (ih : ∀ m, m < (3000 - i).toNat → ∀ (i : Int) (S : sS), INV S → Xi S 0 10 = Xi S 904 1 → 0 ≤ i → i ≤ 2100 → m = (3000 - i).toNat → LWK sl xs 100 18 [(0, .ref SCR), (1, .ref 0), (2, .ref 904), (3, iv i)] [] S) : LWK sl xs 100 358 [(0, .ref SCR), (1, .ref 0), (2, .ref 904), (3, iv i)] [] S := by
  refine r_aload_n rfl rfl ?_
  refine r_aload_n rfl rfl ?_
  refine r_iload_n rfl rfl ?_
  refine r_iconst rfl ?_
  refine r_iadd rfl ?_
  refine r_scr rfl (by omega) (by omega) (by unfold rg; omega) ?_
  have f120 := xs_r (xs ((i + 1)).toNat)
  refine r_aload_n rfl rfl ?_
  refine r_iload_n rfl rfl ?_
  refine r_iconst rfl ?_
  refine r_iadd rfl ?_
  refine r_scr rfl (by omega) (by omega) (by unfold rg; omega) ?_
  have f121 := xs_r (xs ((i + 2)).toNat)
  have K122 := hI
  obtain ⟨hH, ⟨ts, tq, hc⟩, hm⟩ := K122
  refine r_call rfl rfl rfl (t_rs_is hH ((xs ((i + 1)).toNat).toInt) ((xs ((i + 2)).toNat).toInt) ⟨by omega, by omega⟩ ⟨by omega, by omega⟩ hc.2.1.2.2.1 hc.2.1.2.1 74) ?_
  rintro _ _ ⟨rfl, z123, rfl, g124⟩
  show LWK _ _ _ _ _ [iv z123] _
  refine r_pop rfl rfl ?_
  refine r_aload_n rfl rfl ?_
  refine r_aload_n rfl rfl ?_
  refine r_iload_n rfl rfl ?_
  refine r_iconst rfl ?_
  refine r_iadd rfl ?_
  refine r_scr rfl (by omega) (by omega) (by unfold rg; omega) ?_
  have f125 := xs_r (xs ((i + 1)).toNat)
  refine r_aload_n rfl rfl ?_
  refine r_iload_n rfl rfl ?_
  refine r_iconst rfl ?_
  refine r_iadd rfl ?_
  refine r_scr rfl (by omega) (by omega) (by unfold rg; omega) ?_
  have f126 := xs_r (xs ((i + 2)).toNat)
  have K127 := hI
  obtain ⟨hH, ⟨ts, tq, hc⟩, hm⟩ := K127
  refine r_call rfl rfl rfl (t_mo_is hH ((xs ((i + 1)).toNat).toInt) ((xs ((i + 2)).toNat).toInt) ⟨by omega, by omega⟩ ⟨by omega, by omega⟩ hm.1.2.2.2.2.1 hm.1.1 hm.1.2.2.2.2.2.2.2.2.2.1.2.1 74) ?_
  intro T130r T130 q131
  have J132 := lm_mo_is hI q131
  obtain ⟨hHT130, fFT130, z128, rfl, g129⟩ := q131
  have e133 : Xi T130 904 1 = Xi S 904 1 := fFT130.x _ _ rfl
  have e134 := J132.2
  replace J132 := J132.1
  show LWK _ _ _ _ _ [iv z128] _
  refine r_pop rfl rfl ?_
  refine r_goto rfl rfl ?_
  refine r_iinc rfl rfl rfl rfl ?_
  refine r_goto rfl rfl ?_
  exact LWK_weak (ih _ (by omega) (i + 4) T130 J132 (by omega) (by omega) (by omega) rfl) (And.intro rfl (And.intro rfl (And.intro rfl (And.intro rfl True.intro))))
set_option maxRecDepth 100000 in
set_option maxHeartbeats 4000000 in
theorem case_9 {sl : Nat} {xs : Nat → Int32} (hsl : sl ≤ 2048) (i : Int) (S : sS) (hI : INV S) (hq : Xi S 0 10 = Xi S 904 1) (h0 : 0 ≤ i) (h1 : i ≤ 2100) (hi4 : i + 4 ≤ sl) (ih : ∀ m, m < (3000 - i).toNat → ∀ (i : Int) (S : sS), INV S → Xi S 0 10 = Xi S 904 1 → 0 ≤ i → i ≤ 2100 → m = (3000 - i).toNat → LWK sl xs 100 18 [(0, .ref SCR), (1, .ref 0), (2, .ref 904), (3, iv i)] [] S) : LWK sl xs 100 391 [(0, .ref SCR), (1, .ref 0), (2, .ref 904), (3, iv i)] [] S := by
  refine r_aload_n rfl rfl ?_
  refine r_aload_n rfl rfl ?_
  refine r_iload_n rfl rfl ?_
  refine r_iconst rfl ?_
  refine r_iadd rfl ?_
  refine r_scr rfl (by omega) (by omega) (by unfold rg; omega) ?_
  have f135 := xs_r (xs ((i + 1)).toNat)
  refine r_aload_n rfl rfl ?_
  refine r_iload_n rfl rfl ?_
  refine r_iconst rfl ?_
  refine r_iadd rfl ?_
  refine r_scr rfl (by omega) (by omega) (by unfold rg; omega) ?_
  have f136 := xs_r (xs ((i + 2)).toNat)
  have K137 := hI
  obtain ⟨hH, ⟨ts, tq, hc⟩, hm⟩ := K137
  refine r_call rfl rfl rfl (t_rs_property hH ((xs ((i + 1)).toNat).toInt) ((xs ((i + 2)).toNat).toInt) ⟨by omega, by omega⟩ ⟨by omega, by omega⟩ 96) ?_
  rintro _ _ ⟨rfl, z138, rfl, g139⟩
  show LWK _ _ _ _ _ [iv z138] _
  refine r_pop rfl rfl ?_
  refine r_aload_n rfl rfl ?_
  refine r_aload_n rfl rfl ?_
  refine r_iload_n rfl rfl ?_
  refine r_iconst rfl ?_
  refine r_iadd rfl ?_
  refine r_scr rfl (by omega) (by omega) (by unfold rg; omega) ?_
  have f140 := xs_r (xs ((i + 1)).toNat)
  refine r_aload_n rfl rfl ?_
  refine r_iload_n rfl rfl ?_
  refine r_iconst rfl ?_
  refine r_iadd rfl ?_
  refine r_scr rfl (by omega) (by omega) (by unfold rg; omega) ?_
  have f141 := xs_r (xs ((i + 2)).toNat)
  have K142 := hI
  obtain ⟨hH, ⟨ts, tq, hc⟩, hm⟩ := K142
  refine r_call rfl rfl rfl (t_mo_property_2 hH ((xs ((i + 1)).toNat).toInt) ((xs ((i + 2)).toNat).toInt) ⟨by omega, by omega⟩ ⟨by omega, by omega⟩ hm.1.2.2.2.2.1 hm.1.1 97) ?_
  intro T145r T145 q146
  have J147 := lm_mo_property_2 hI q146
  obtain ⟨hHT145, fFT145, z143, rfl, g144⟩ := q146
  have e148 : Xi T145 904 1 = Xi S 904 1 := fFT145.x _ _ rfl
  have e149 := J147.2
  replace J147 := J147.1
  show LWK _ _ _ _ _ [iv z143] _
  refine r_pop rfl rfl ?_
  refine r_goto rfl rfl ?_
  refine r_iinc rfl rfl rfl rfl ?_
  refine r_goto rfl rfl ?_
  exact LWK_weak (ih _ (by omega) (i + 4) T145 J147 (by omega) (by omega) (by omega) rfl) (And.intro rfl (And.intro rfl (And.intro rfl (And.intro rfl True.intro))))
set_option maxRecDepth 100000 in
set_option maxHeartbeats 4000000 in
theorem case_10 {sl : Nat} {xs : Nat → Int32} (hsl : sl ≤ 2048) (i : Int) (S : sS) (hI : INV S) (hq : Xi S 0 10 = Xi S 904 1) (h0 : 0 ≤ i) (h1 : i ≤ 2100) (hi4 : i + 4 ≤ sl) (ih : ∀ m, m < (3000 - i).toNat → ∀ (i : Int) (S : sS), INV S → Xi S 0 10 = Xi S 904 1 → 0 ≤ i → i ≤ 2100 → m = (3000 - i).toNat → LWK sl xs 100 18 [(0, .ref SCR), (1, .ref 0), (2, .ref 904), (3, iv i)] [] S) : LWK sl xs 100 424 [(0, .ref SCR), (1, .ref 0), (2, .ref 904), (3, iv i)] [] S := by
  refine r_aload_n rfl rfl ?_
  refine r_aload_n rfl rfl ?_
  refine r_iload_n rfl rfl ?_
  refine r_iconst rfl ?_
  refine r_iadd rfl ?_
  refine r_scr rfl (by omega) (by omega) (by unfold rg; omega) ?_
  have f150 := xs_r (xs ((i + 1)).toNat)
  refine r_aload_n rfl rfl ?_
  refine r_iload_n rfl rfl ?_
  refine r_iconst rfl ?_
  refine r_iadd rfl ?_
  refine r_scr rfl (by omega) (by omega) (by unfold rg; omega) ?_
  have f151 := xs_r (xs ((i + 2)).toNat)
  refine r_aload_n rfl rfl ?_
  refine r_iload_n rfl rfl ?_
  refine r_iconst rfl ?_
  refine r_iadd rfl ?_
  refine r_scr rfl (by omega) (by omega) (by unfold rg; omega) ?_
  have f152 := xs_r (xs ((i + 3)).toNat)
  have K153 := hI
  obtain ⟨hH, ⟨ts, tq, hc⟩, hm⟩ := K153
  refine r_call rfl rfl rfl (t_rs_letter hH ((xs ((i + 1)).toNat).toInt) ((xs ((i + 2)).toNat).toInt) ((xs ((i + 3)).toNat).toInt) ⟨by omega, by omega⟩ ⟨by omega, by omega⟩ ⟨by omega, by omega⟩ hc.2.1.2.1 96) ?_
  rintro _ _ ⟨rfl, z154, rfl, g155⟩
  show LWK _ _ _ _ _ [iv z154] _
  refine r_pop rfl rfl ?_
  refine r_aload_n rfl rfl ?_
  refine r_aload_n rfl rfl ?_
  refine r_iload_n rfl rfl ?_
  refine r_iconst rfl ?_
  refine r_iadd rfl ?_
  refine r_scr rfl (by omega) (by omega) (by unfold rg; omega) ?_
  have f156 := xs_r (xs ((i + 1)).toNat)
  refine r_aload_n rfl rfl ?_
  refine r_iload_n rfl rfl ?_
  refine r_iconst rfl ?_
  refine r_iadd rfl ?_
  refine r_scr rfl (by omega) (by omega) (by unfold rg; omega) ?_
  have f157 := xs_r (xs ((i + 2)).toNat)
  refine r_aload_n rfl rfl ?_
  refine r_iload_n rfl rfl ?_
  refine r_iconst rfl ?_
  refine r_iadd rfl ?_
  refine r_scr rfl (by omega) (by omega) (by unfold rg; omega) ?_
  have f158 := xs_r (xs ((i + 3)).toNat)
  have K159 := hI
  obtain ⟨hH, ⟨ts, tq, hc⟩, hm⟩ := K159
  refine r_call rfl rfl rfl (t_mo_letter hH ((xs ((i + 1)).toNat).toInt) ((xs ((i + 2)).toNat).toInt) ((xs ((i + 3)).toNat).toInt) ⟨by omega, by omega⟩ ⟨by omega, by omega⟩ ⟨by omega, by omega⟩ hm.1.2.2.2.2.1 hm.1.1 97) ?_
  intro T162r T162 q163
  have J164 := lm_mo_letter hI q163
  obtain ⟨hHT162, fFT162, z160, rfl, g161⟩ := q163
  have e165 : Xi T162 904 1 = Xi S 904 1 := fFT162.x _ _ rfl
  have e166 := J164.2
  replace J164 := J164.1
  show LWK _ _ _ _ _ [iv z160] _
  refine r_pop rfl rfl ?_
  refine r_goto rfl rfl ?_
  refine r_iinc rfl rfl rfl rfl ?_
  refine r_goto rfl rfl ?_
  exact LWK_weak (ih _ (by omega) (i + 4) T162 J164 (by omega) (by omega) (by omega) rfl) (And.intro rfl (And.intro rfl (And.intro rfl (And.intro rfl True.intro))))
set_option maxRecDepth 100000 in
set_option maxHeartbeats 4000000 in
theorem case_11 {sl : Nat} {xs : Nat → Int32} (hsl : sl ≤ 2048) (i : Int) (S : sS) (hI : INV S) (hq : Xi S 0 10 = Xi S 904 1) (h0 : 0 ≤ i) (h1 : i ≤ 2100) (hi4 : i + 4 ≤ sl) (ih : ∀ m, m < (3000 - i).toNat → ∀ (i : Int) (S : sS), INV S → Xi S 0 10 = Xi S 904 1 → 0 ≤ i → i ≤ 2100 → m = (3000 - i).toNat → LWK sl xs 100 18 [(0, .ref SCR), (1, .ref 0), (2, .ref 904), (3, iv i)] [] S) : LWK sl xs 100 467 [(0, .ref SCR), (1, .ref 0), (2, .ref 904), (3, iv i)] [] S := by
  refine r_aload_n rfl rfl ?_
  refine r_aload_n rfl rfl ?_
  refine r_iload_n rfl rfl ?_
  refine r_iconst rfl ?_
  refine r_iadd rfl ?_
  refine r_scr rfl (by omega) (by omega) (by unfold rg; omega) ?_
  have f167 := xs_r (xs ((i + 1)).toNat)
  refine r_aload_n rfl rfl ?_
  refine r_iload_n rfl rfl ?_
  refine r_iconst rfl ?_
  refine r_iadd rfl ?_
  refine r_scr rfl (by omega) (by omega) (by unfold rg; omega) ?_
  have f168 := xs_r (xs ((i + 2)).toNat)
  have K169 := hI
  obtain ⟨hH, ⟨ts, tq, hc⟩, hm⟩ := K169
  refine r_call rfl rfl rfl (t_rs_leads hH ((xs ((i + 1)).toNat).toInt) ((xs ((i + 2)).toNat).toInt) ⟨by omega, by omega⟩ ⟨by omega, by omega⟩ 97) ?_
  rintro _ _ ⟨rfl, z170, rfl, g171⟩
  show LWK _ _ _ _ _ [iv z170] _
  refine r_pop rfl rfl ?_
  refine r_aload_n rfl rfl ?_
  refine r_aload_n rfl rfl ?_
  refine r_iload_n rfl rfl ?_
  refine r_iconst rfl ?_
  refine r_iadd rfl ?_
  refine r_scr rfl (by omega) (by omega) (by unfold rg; omega) ?_
  have f172 := xs_r (xs ((i + 1)).toNat)
  refine r_aload_n rfl rfl ?_
  refine r_iload_n rfl rfl ?_
  refine r_iconst rfl ?_
  refine r_iadd rfl ?_
  refine r_scr rfl (by omega) (by omega) (by unfold rg; omega) ?_
  have f173 := xs_r (xs ((i + 2)).toNat)
  have K174 := hI
  obtain ⟨hH, ⟨ts, tq, hc⟩, hm⟩ := K174
  refine r_call rfl rfl rfl (t_mo_leads hH ((xs ((i + 1)).toNat).toInt) ((xs ((i + 2)).toNat).toInt) ⟨by omega, by omega⟩ ⟨by omega, by omega⟩ 98) ?_
  rintro _ _ ⟨rfl, z175, rfl, g176⟩
  show LWK _ _ _ _ _ [iv z175] _
  refine r_pop rfl rfl ?_
  refine r_goto rfl rfl ?_
  refine r_iinc rfl rfl rfl rfl ?_
  refine r_goto rfl rfl ?_
  exact LWK_weak (ih _ (by omega) (i + 4) S hI (by omega) (by omega) (by omega) rfl) (And.intro rfl (And.intro rfl (And.intro rfl (And.intro rfl True.intro))))
set_option maxRecDepth 100000 in
set_option maxHeartbeats 4000000 in
theorem case_12 {sl : Nat} {xs : Nat → Int32} (hsl : sl ≤ 2048) (i : Int) (S : sS) (hI : INV S) (hq : Xi S 0 10 = Xi S 904 1) (h0 : 0 ≤ i) (h1 : i ≤ 2100) (hi4 : i + 4 ≤ sl) (ih : ∀ m, m < (3000 - i).toNat → ∀ (i : Int) (S : sS), INV S → Xi S 0 10 = Xi S 904 1 → 0 ≤ i → i ≤ 2100 → m = (3000 - i).toNat → LWK sl xs 100 18 [(0, .ref SCR), (1, .ref 0), (2, .ref 904), (3, iv i)] [] S) : LWK sl xs 100 500 [(0, .ref SCR), (1, .ref 0), (2, .ref 904), (3, iv i)] [] S := by
  refine r_aload_n rfl rfl ?_
  refine r_aload_n rfl rfl ?_
  refine r_iload_n rfl rfl ?_
  refine r_iconst rfl ?_
  refine r_iadd rfl ?_
  refine r_scr rfl (by omega) (by omega) (by unfold rg; omega) ?_
  have f177 := xs_r (xs ((i + 1)).toNat)
  refine r_aload_n rfl rfl ?_
  refine r_iload_n rfl rfl ?_
  refine r_iconst rfl ?_
  refine r_iadd rfl ?_
  refine r_scr rfl (by omega) (by omega) (by unfold rg; omega) ?_
  have f178 := xs_r (xs ((i + 2)).toNat)
  refine r_aload_n rfl rfl ?_
  refine r_iload_n rfl rfl ?_
  refine r_iconst rfl ?_
  refine r_iadd rfl ?_
  refine r_scr rfl (by omega) (by omega) (by unfold rg; omega) ?_
  have f179 := xs_r (xs ((i + 3)).toNat)
  have K180 := hI
  obtain ⟨hH, ⟨ts, tq, hc⟩, hm⟩ := K180
  refine r_call rfl rfl rfl (t_rs_related hH ((xs ((i + 1)).toNat).toInt) ((xs ((i + 2)).toNat).toInt) ((xs ((i + 3)).toNat).toInt) ⟨by omega, by omega⟩ ⟨by omega, by omega⟩ ⟨by omega, by omega⟩ 97) ?_
  rintro _ _ ⟨rfl, z181, rfl, g182⟩
  show LWK _ _ _ _ _ [iv z181] _
  refine r_pop rfl rfl ?_
  refine r_aload_n rfl rfl ?_
  refine r_aload_n rfl rfl ?_
  refine r_iload_n rfl rfl ?_
  refine r_iconst rfl ?_
  refine r_iadd rfl ?_
  refine r_scr rfl (by omega) (by omega) (by unfold rg; omega) ?_
  have f183 := xs_r (xs ((i + 1)).toNat)
  refine r_aload_n rfl rfl ?_
  refine r_iload_n rfl rfl ?_
  refine r_iconst rfl ?_
  refine r_iadd rfl ?_
  refine r_scr rfl (by omega) (by omega) (by unfold rg; omega) ?_
  have f184 := xs_r (xs ((i + 2)).toNat)
  refine r_aload_n rfl rfl ?_
  refine r_iload_n rfl rfl ?_
  refine r_iconst rfl ?_
  refine r_iadd rfl ?_
  refine r_scr rfl (by omega) (by omega) (by unfold rg; omega) ?_
  have f185 := xs_r (xs ((i + 3)).toNat)
  have K186 := hI
  obtain ⟨hH, ⟨ts, tq, hc⟩, hm⟩ := K186
  refine r_call rfl rfl rfl (t_mo_related hH ((xs ((i + 1)).toNat).toInt) ((xs ((i + 2)).toNat).toInt) ((xs ((i + 3)).toNat).toInt) ⟨by omega, by omega⟩ ⟨by omega, by omega⟩ ⟨by omega, by omega⟩ 98) ?_
  rintro _ _ ⟨rfl, z187, rfl, g188⟩
  show LWK _ _ _ _ _ [iv z187] _
  refine r_pop rfl rfl ?_
  refine r_goto rfl rfl ?_
  refine r_iinc rfl rfl rfl rfl ?_
  refine r_goto rfl rfl ?_
  exact LWK_weak (ih _ (by omega) (i + 4) S hI (by omega) (by omega) (by omega) rfl) (And.intro rfl (And.intro rfl (And.intro rfl (And.intro rfl True.intro))))
set_option maxRecDepth 100000 in
set_option maxHeartbeats 4000000 in
theorem case_13 {sl : Nat} {xs : Nat → Int32} (hsl : sl ≤ 2048) (i : Int) (S : sS) (hI : INV S) (hq : Xi S 0 10 = Xi S 904 1) (h0 : 0 ≤ i) (h1 : i ≤ 2100) (hi4 : i + 4 ≤ sl) (ih : ∀ m, m < (3000 - i).toNat → ∀ (i : Int) (S : sS), INV S → Xi S 0 10 = Xi S 904 1 → 0 ≤ i → i ≤ 2100 → m = (3000 - i).toNat → LWK sl xs 100 18 [(0, .ref SCR), (1, .ref 0), (2, .ref 904), (3, iv i)] [] S) : LWK sl xs 100 543 [(0, .ref SCR), (1, .ref 0), (2, .ref 904), (3, iv i)] [] S := by
  refine r_aload_n rfl rfl ?_
  refine r_aload_n rfl rfl ?_
  refine r_iload_n rfl rfl ?_
  refine r_iconst rfl ?_
  refine r_iadd rfl ?_
  refine r_scr rfl (by omega) (by omega) (by unfold rg; omega) ?_
  have f189 := xs_r (xs ((i + 1)).toNat)
  refine r_aload_n rfl rfl ?_
  refine r_iload_n rfl rfl ?_
  refine r_iconst rfl ?_
  refine r_iadd rfl ?_
  refine r_scr rfl (by omega) (by omega) (by unfold rg; omega) ?_
  have f190 := xs_r (xs ((i + 2)).toNat)
  have K191 := hI
  obtain ⟨hH, ⟨ts, tq, hc⟩, hm⟩ := K191
  refine r_call rfl rfl rfl (t_rs_rule hH ((xs ((i + 1)).toNat).toInt) ((xs ((i + 2)).toNat).toInt) ⟨by omega, by omega⟩ ⟨by omega, by omega⟩ 98) ?_
  rintro _ _ ⟨rfl, z192, rfl, g193⟩
  show LWK _ _ _ _ _ [iv z192] _
  refine r_pop rfl rfl ?_
  refine r_aload_n rfl rfl ?_
  refine r_aload_n rfl rfl ?_
  refine r_iload_n rfl rfl ?_
  refine r_iconst rfl ?_
  refine r_iadd rfl ?_
  refine r_scr rfl (by omega) (by omega) (by unfold rg; omega) ?_
  have f194 := xs_r (xs ((i + 1)).toNat)
  refine r_aload_n rfl rfl ?_
  refine r_iload_n rfl rfl ?_
  refine r_iconst rfl ?_
  refine r_iadd rfl ?_
  refine r_scr rfl (by omega) (by omega) (by unfold rg; omega) ?_
  have f195 := xs_r (xs ((i + 2)).toNat)
  have K196 := hI
  obtain ⟨hH, ⟨ts, tq, hc⟩, hm⟩ := K196
  refine r_call rfl rfl rfl (t_mo_rule_2 hH ((xs ((i + 1)).toNat).toInt) ((xs ((i + 2)).toNat).toInt) ⟨by omega, by omega⟩ ⟨by omega, by omega⟩ hm.1.2.2.2.2.1 96) ?_
  rintro _ _ ⟨rfl, z197, rfl, g198⟩
  show LWK _ _ _ _ _ [iv z197] _
  refine r_pop rfl rfl ?_
  refine r_goto rfl rfl ?_
  refine r_iinc rfl rfl rfl rfl ?_
  refine r_goto rfl rfl ?_
  exact LWK_weak (ih _ (by omega) (i + 4) S hI (by omega) (by omega) (by omega) rfl) (And.intro rfl (And.intro rfl (And.intro rfl (And.intro rfl True.intro))))
set_option maxRecDepth 100000 in
set_option maxHeartbeats 4000000 in
theorem case_14 {sl : Nat} {xs : Nat → Int32} (hsl : sl ≤ 2048) (i : Int) (S : sS) (hI : INV S) (hq : Xi S 0 10 = Xi S 904 1) (h0 : 0 ≤ i) (h1 : i ≤ 2100) (hi4 : i + 4 ≤ sl) (ih : ∀ m, m < (3000 - i).toNat → ∀ (i : Int) (S : sS), INV S → Xi S 0 10 = Xi S 904 1 → 0 ≤ i → i ≤ 2100 → m = (3000 - i).toNat → LWK sl xs 100 18 [(0, .ref SCR), (1, .ref 0), (2, .ref 904), (3, iv i)] [] S) : LWK sl xs 100 576 [(0, .ref SCR), (1, .ref 0), (2, .ref 904), (3, iv i)] [] S := by
  refine r_aload_n rfl rfl ?_
  refine r_aload_n rfl rfl ?_
  refine r_iload_n rfl rfl ?_
  refine r_iconst rfl ?_
  refine r_iadd rfl ?_
  refine r_scr rfl (by omega) (by omega) (by unfold rg; omega) ?_
  have f199 := xs_r (xs ((i + 1)).toNat)
  refine r_aload_n rfl rfl ?_
  refine r_iload_n rfl rfl ?_
  refine r_iconst rfl ?_
  refine r_iadd rfl ?_
  refine r_scr rfl (by omega) (by omega) (by unfold rg; omega) ?_
  have f200 := xs_r (xs ((i + 2)).toNat)
  have K201 := hI
  obtain ⟨hH, ⟨ts, tq, hc⟩, hm⟩ := K201
  refine r_call rfl rfl rfl (t_rs_act hH ((xs ((i + 1)).toNat).toInt) ((xs ((i + 2)).toNat).toInt) ⟨by omega, by omega⟩ ⟨by omega, by omega⟩ hc.2.1.2.1 hc.2.1.2.2.1 hc.2.1.2.2.2.1 hc.2.2 hc.2.1.2.2.2.2.2.1 42) ?_
  intro T205r T205 q206
  have J207 := cl_rs_act hI q206
  obtain ⟨hHT205, fFT205, z202, rfl, g204, p203⟩ := q206
  have e208 : Xi T205 0 10 = Xi S 0 10 := fFT205.x _ _ rfl
  have e209 := J207.2
  replace J207 := J207.1
  show LWK _ _ _ _ _ [iv z202] _
  refine r_pop rfl rfl ?_
  refine r_aload_n rfl rfl ?_
  refine r_aload_n rfl rfl ?_
  refine r_iload_n rfl rfl ?_
  refine r_iconst rfl ?_
  refine r_iadd rfl ?_
  refine r_scr rfl (by omega) (by omega) (by unfold rg; omega) ?_
  have f210 := xs_r (xs ((i + 1)).toNat)
  refine r_aload_n rfl rfl ?_
  refine r_iload_n rfl rfl ?_
  refine r_iconst rfl ?_
  refine r_iadd rfl ?_
  refine r_scr rfl (by omega) (by omega) (by unfold rg; omega) ?_
  have f211 := xs_r (xs ((i + 2)).toNat)
  have K212 := J207
  obtain ⟨hH, ⟨ts, tq, hc⟩, hm⟩ := K212
  refine r_call rfl rfl rfl (t_mo_act hH ((xs ((i + 1)).toNat).toInt) ((xs ((i + 2)).toNat).toInt) ⟨by omega, by omega⟩ ⟨by omega, by omega⟩ hm.1.1 hm.1.2.2.2.2.2.2.2.2.2.1.2.1 hm.1.2.2.2.2.2.2.2.2.2.1.1 hm.1.2.2.2.2.1 hm.1.2.2.1 hm.1.2.1 hm.1.2.2.2.2.2.2.2.2.2.2.1 43) ?_
  intro T217r T217 q218
  have J219 := lm_mo_act J207 q218
  obtain ⟨hHT217, fFT217, z213, rfl, g216, p214, p215⟩ := q218
  have e220 : Xi T217 904 1 = Xi T205 904 1 := fFT217.x _ _ rfl
  have e221 := J219.2
  replace J219 := J219.1
  show LWK _ _ _ _ _ [iv z213] _
  refine r_pop rfl rfl ?_
  refine r_goto rfl rfl ?_
  refine r_iinc rfl rfl rfl rfl ?_
  refine r_goto rfl rfl ?_
  exact LWK_weak (ih _ (by omega) (i + 4) T217 J219 (by omega) (by omega) (by omega) rfl) (And.intro rfl (And.intro rfl (And.intro rfl (And.intro rfl True.intro))))
set_option maxRecDepth 100000 in
set_option maxHeartbeats 4000000 in
theorem case_15 {sl : Nat} {xs : Nat → Int32} (hsl : sl ≤ 2048) (i : Int) (S : sS) (hI : INV S) (hq : Xi S 0 10 = Xi S 904 1) (h0 : 0 ≤ i) (h1 : i ≤ 2100) (hi4 : i + 4 ≤ sl) (ih : ∀ m, m < (3000 - i).toNat → ∀ (i : Int) (S : sS), INV S → Xi S 0 10 = Xi S 904 1 → 0 ≤ i → i ≤ 2100 → m = (3000 - i).toNat → LWK sl xs 100 18 [(0, .ref SCR), (1, .ref 0), (2, .ref 904), (3, iv i)] [] S) : LWK sl xs 100 609 [(0, .ref SCR), (1, .ref 0), (2, .ref 904), (3, iv i)] [] S := by
  refine r_aload_n rfl rfl ?_
  have K222 := hI
  obtain ⟨hH, ⟨ts, tq, hc⟩, hm⟩ := K222
  refine r_call rfl rfl rfl (t_rs_command__2 hH hc.2.1.2.1 hc.2.1.2.2.1 hc.2.1.2.2.2.1 hc.2.2 hc.2.1.2.2.2.2.2.1 hc.2.1.1 hc.2.1.2.2.2.2.1 42) ?_
  intro T227r T227 q228
  have J229 := cl_rs_command__2 hI q228
  obtain ⟨hHT227, fFT227, z223, rfl, g226, p224, p225⟩ := q228
  have e230 := J229.2
  replace J229 := J229.1
  show LWK _ _ _ _ _ [iv z223] _
  refine r_pop rfl rfl ?_
  refine r_aload_n rfl rfl ?_
  have K231 := J229
  obtain ⟨hH, ⟨ts, tq, hc⟩, hm⟩ := K231
  refine r_call rfl rfl rfl (t_mo_command__2 hH hm.1.1 hm.1.2.2.2.2.2.2.2.2.2.1.2.1 hm.1.2.2.2.2.2.2.2.2.2.1.1 hm.1.2.2.2.2.1 hm.1.2.2.1 hm.1.2.1 hm.1.2.2.2.2.2.2.2.2.2.2.1 42) ?_
  intro T237r T237 q238
  have J239 := lm_mo_command__2 J229 q238
  obtain ⟨hHT237, fFT237, z232, rfl, g236, p233, p234, p235⟩ := q238
  have e240 := J239.2
  replace J239 := J239.1
  show LWK _ _ _ _ _ [iv z232] _
  refine r_pop rfl rfl ?_
  refine r_goto rfl rfl ?_
  refine r_iinc rfl rfl rfl rfl ?_
  refine r_goto rfl rfl ?_
  exact LWK_weak (ih _ (by omega) (i + 4) T237 J239 (by omega) (by omega) (by omega) rfl) (And.intro rfl (And.intro rfl (And.intro rfl (And.intro rfl True.intro))))
set_option maxRecDepth 100000 in
set_option maxHeartbeats 4000000 in
theorem case_16 {sl : Nat} {xs : Nat → Int32} (hsl : sl ≤ 2048) (i : Int) (S : sS) (hI : INV S) (hq : Xi S 0 10 = Xi S 904 1) (h0 : 0 ≤ i) (h1 : i ≤ 2100) (hi4 : i + 4 ≤ sl) (ih : ∀ m, m < (3000 - i).toNat → ∀ (i : Int) (S : sS), INV S → Xi S 0 10 = Xi S 904 1 → 0 ≤ i → i ≤ 2100 → m = (3000 - i).toNat → LWK sl xs 100 18 [(0, .ref SCR), (1, .ref 0), (2, .ref 904), (3, iv i)] [] S) : LWK sl xs 100 622 [(0, .ref SCR), (1, .ref 0), (2, .ref 904), (3, iv i)] [] S := by
  refine r_aload_n rfl rfl ?_
  have K241 := hI
  obtain ⟨hH, ⟨ts, tq, hc⟩, hm⟩ := K241
  refine r_call rfl rfl rfl (t_rs_outs hH  99) ?_
  rintro _ _ ⟨rfl, z242, rfl, g243⟩
  show LWK _ _ _ _ _ [iv z242] _
  refine r_pop rfl rfl ?_
  refine r_aload_n rfl rfl ?_
  have K244 := hI
  obtain ⟨hH, ⟨ts, tq, hc⟩, hm⟩ := K244
  refine r_call rfl rfl rfl (t_mo_outs hH  99) ?_
  rintro _ _ ⟨rfl, z245, rfl, g246⟩
  show LWK _ _ _ _ _ [iv z245] _
  refine r_pop rfl rfl ?_
  refine r_goto rfl rfl ?_
  refine r_iinc rfl rfl rfl rfl ?_
  refine r_goto rfl rfl ?_
  exact LWK_weak (ih _ (by omega) (i + 4) S hI (by omega) (by omega) (by omega) rfl) (And.intro rfl (And.intro rfl (And.intro rfl (And.intro rfl True.intro))))
set_option maxRecDepth 100000 in
set_option maxHeartbeats 4000000 in
theorem case_17 {sl : Nat} {xs : Nat → Int32} (hsl : sl ≤ 2048) (i : Int) (S : sS) (hI : INV S) (hq : Xi S 0 10 = Xi S 904 1) (h0 : 0 ≤ i) (h1 : i ≤ 2100) (hi4 : i + 4 ≤ sl) (ih : ∀ m, m < (3000 - i).toNat → ∀ (i : Int) (S : sS), INV S → Xi S 0 10 = Xi S 904 1 → 0 ≤ i → i ≤ 2100 → m = (3000 - i).toNat → LWK sl xs 100 18 [(0, .ref SCR), (1, .ref 0), (2, .ref 904), (3, iv i)] [] S) : LWK sl xs 100 635 [(0, .ref SCR), (1, .ref 0), (2, .ref 904), (3, iv i)] [] S := by
  refine r_aload_n rfl rfl ?_
  refine r_aload_n rfl rfl ?_
  refine r_iload_n rfl rfl ?_
  refine r_iconst rfl ?_
  refine r_iadd rfl ?_
  refine r_scr rfl (by omega) (by omega) (by unfold rg; omega) ?_
  have f247 := xs_r (xs ((i + 1)).toNat)
  have K248 := hI
  obtain ⟨hH, ⟨ts, tq, hc⟩, hm⟩ := K248
  refine r_call rfl rfl rfl (t_rs_out hH ((xs ((i + 1)).toNat).toInt) ⟨by omega, by omega⟩ 99) ?_
  rintro _ _ ⟨rfl, z249, rfl, g250⟩
  show LWK _ _ _ _ _ [iv z249] _
  refine r_pop rfl rfl ?_
  refine r_aload_n rfl rfl ?_
  refine r_aload_n rfl rfl ?_
  refine r_iload_n rfl rfl ?_
  refine r_iconst rfl ?_
  refine r_iadd rfl ?_
  refine r_scr rfl (by omega) (by omega) (by unfold rg; omega) ?_
  have f251 := xs_r (xs ((i + 1)).toNat)
  have K252 := hI
  obtain ⟨hH, ⟨ts, tq, hc⟩, hm⟩ := K252
  refine r_call rfl rfl rfl (t_mo_out hH ((xs ((i + 1)).toNat).toInt) ⟨by omega, by omega⟩ 98) ?_
  rintro _ _ ⟨rfl, z253, rfl, g254⟩
  show LWK _ _ _ _ _ [iv z253] _
  refine r_pop rfl rfl ?_
  refine r_goto rfl rfl ?_
  refine r_iinc rfl rfl rfl rfl ?_
  refine r_goto rfl rfl ?_
  exact LWK_weak (ih _ (by omega) (i + 4) S hI (by omega) (by omega) (by omega) rfl) (And.intro rfl (And.intro rfl (And.intro rfl (And.intro rfl True.intro))))
set_option maxRecDepth 100000 in
set_option maxHeartbeats 4000000 in
theorem case_18 {sl : Nat} {xs : Nat → Int32} (hsl : sl ≤ 2048) (i : Int) (S : sS) (hI : INV S) (hq : Xi S 0 10 = Xi S 904 1) (h0 : 0 ≤ i) (h1 : i ≤ 2100) (hi4 : i + 4 ≤ sl) (ih : ∀ m, m < (3000 - i).toNat → ∀ (i : Int) (S : sS), INV S → Xi S 0 10 = Xi S 904 1 → 0 ≤ i → i ≤ 2100 → m = (3000 - i).toNat → LWK sl xs 100 18 [(0, .ref SCR), (1, .ref 0), (2, .ref 904), (3, iv i)] [] S) : LWK sl xs 100 658 [(0, .ref SCR), (1, .ref 0), (2, .ref 904), (3, iv i)] [] S := by
  refine r_aload_n rfl rfl ?_
  have K255 := hI
  obtain ⟨hH, ⟨ts, tq, hc⟩, hm⟩ := K255
  refine r_call rfl rfl rfl (t_rs_clear hH  98) ?_
  intro T258r T258 q259
  have J260 := cl_rs_clear hI q259
  obtain ⟨hHT258, fFT258, z256, rfl, g257⟩ := q259
  have e261 : Xi T258 0 10 = Xi S 0 10 := fFT258.x _ _ rfl
  have e262 := J260.2
  replace J260 := J260.1
  show LWK _ _ _ _ _ [iv z256] _
  refine r_pop rfl rfl ?_
  refine r_aload_n rfl rfl ?_
  have K263 := J260
  obtain ⟨hH, ⟨ts, tq, hc⟩, hm⟩ := K263
  refine r_call rfl rfl rfl (t_mo_clear hH  99) ?_
  intro T267r T267 q268
  have J269 := lm_mo_clear J260 q268
  obtain ⟨hHT267, fFT267, z264, rfl, g266, p265⟩ := q268
  have e270 : Xi T267 904 1 = Xi T258 904 1 := fFT267.x _ _ rfl
  have e271 := J269.2
  replace J269 := J269.1
  show LWK _ _ _ _ _ [iv z264] _
  refine r_pop rfl rfl ?_
  refine r_goto rfl rfl ?_
  refine r_iinc rfl rfl rfl rfl ?_
  refine r_goto rfl rfl ?_
  exact LWK_weak (ih _ (by omega) (i + 4) T267 J269 (by omega) (by omega) (by omega) rfl) (And.intro rfl (And.intro rfl (And.intro rfl (And.intro rfl True.intro))))
set_option maxRecDepth 100000 in
set_option maxHeartbeats 4000000 in
theorem law_loop {sl : Nat} {xs : Nat → Int32} (hsl : sl ≤ 2048) : ∀ (n : Nat) (i : Int) (S : sS), INV S → Xi S 0 10 = Xi S 904 1 → 0 ≤ i → i ≤ 2100 → n = (3000 - i).toNat → LWK sl xs 100 18 [(0, .ref SCR), (1, .ref 0), (2, .ref 904), (3, iv i)] [] S := by
  intro n
  induction n using Nat.strongRecOn with
  | ind n ih =>
    intro i S hI hq h0 h1 hn
    subst hn
    refine r_iload_n rfl rfl ?_
    refine r_aload_n rfl rfl ?_
    refine r_len rfl ?_
    refine r_iconst rfl ?_
    refine r_isub rfl ?_
    refine r_icmp_gt rfl rfl (by unfold rg; omega) (by unfold rg; omega) (fun w1 => ?_) (fun w2 => ?_)
    · refine r_iconst rfl ?_
      exact r_ret rfl
    · refine r_aload_n rfl rfl ?_
      refine r_iload_n rfl rfl ?_
      refine r_scr rfl (by omega) (by omega) (by unfold rg; omega) ?_
      have f3 := xs_r (xs (i).toNat)
      refine r_bipush rfl rfl ?_
      refine r_iandF rfl ?_
      have f4 : 0 ≤ (iandF (xs (i).toNat).toInt 31) ∧ (iandF (xs (i).toNat).toInt 31) ≤ 31 := iandF_le (by omega) (by unfold rg; omega)
      refine r_tsw rfl rfl rfl rfl (by unfold rg; omega) (fun w5 => ?_) (fun ii tt hii w5 => ?_)
      · refine r_iinc rfl rfl rfl rfl ?_
        refine r_goto rfl rfl ?_
        exact LWK_weak (ih _ (by omega) (i + 4) S hI (by omega) (by omega) (by omega) rfl) (And.intro rfl (And.intro rfl (And.intro rfl (And.intro rfl True.intro))))
      · match ii, hii with
        | 0, hii =>
          cases hii
          exact case_0 hsl i S hI hq h0 h1 (by omega) ih
        | 1, hii =>
          cases hii
          exact case_1 hsl i S hI hq h0 h1 (by omega) ih
        | 2, hii =>
          cases hii
          exact case_2 hsl i S hI hq h0 h1 (by omega) ih
        | 3, hii =>
          cases hii
          exact case_3 hsl i S hI hq h0 h1 (by omega) ih
        | 4, hii =>
          cases hii
          exact case_4 hsl i S hI hq h0 h1 (by omega) ih
        | 5, hii =>
          cases hii
          exact case_5 hsl i S hI hq h0 h1 (by omega) ih
        | 6, hii =>
          cases hii
          exact case_6 hsl i S hI hq h0 h1 (by omega) ih
        | 7, hii =>
          cases hii
          exact case_7 hsl i S hI hq h0 h1 (by omega) ih
        | 8, hii =>
          cases hii
          exact case_8 hsl i S hI hq h0 h1 (by omega) ih
        | 9, hii =>
          cases hii
          exact case_9 hsl i S hI hq h0 h1 (by omega) ih
        | 10, hii =>
          cases hii
          exact case_10 hsl i S hI hq h0 h1 (by omega) ih
        | 11, hii =>
          cases hii
          exact case_11 hsl i S hI hq h0 h1 (by omega) ih
        | 12, hii =>
          cases hii
          exact case_12 hsl i S hI hq h0 h1 (by omega) ih
        | 13, hii =>
          cases hii
          exact case_13 hsl i S hI hq h0 h1 (by omega) ih
        | 14, hii =>
          cases hii
          exact case_14 hsl i S hI hq h0 h1 (by omega) ih
        | 15, hii =>
          cases hii
          exact case_15 hsl i S hI hq h0 h1 (by omega) ih
        | 16, hii =>
          cases hii
          exact case_16 hsl i S hI hq h0 h1 (by omega) ih
        | 17, hii =>
          cases hii
          exact case_17 hsl i S hI hq h0 h1 (by omega) ih
        | 18, hii =>
          cases hii
          exact case_18 hsl i S hI hq h0 h1 (by omega) ih
        | n + 19, hii => exact absurd hii (by simp)
