/-! THE LAW'S LOOP -/
theorem xs_r (v : Int32) : -2147483648 ≤ v.toInt ∧ v.toInt ≤ 2147483647 := ⟨Int32.le_toInt _, by have := Int32.toInt_lt v; omega⟩
set_option maxRecDepth 100000 in
set_option maxHeartbeats 4000000 in
theorem case_0 {sl : Nat} {xs : Nat → Int32} (hsl : sl ≤ 2048) (i : Int) (S : sS) (hI : INV S) (hq : Xi S 0 10 = Xi S 904 1) (hE : RLL S) (h0 : 0 ≤ i) (h1 : i ≤ 2100) (hi4 : i + 4 ≤ sl) (ih : ∀ m, m < (3000 - i).toNat → ∀ (i : Int) (S : sS), INV S → Xi S 0 10 = Xi S 904 1 → RLL S → 0 ≤ i → i ≤ 2100 → m = (3000 - i).toNat → LWK sl xs 100 18 [(0, .ref SCR), (1, .ref 0), (2, .ref 904), (3, iv i)] [] S) : LWK sl xs 100 124 [(0, .ref SCR), (1, .ref 0), (2, .ref 904), (3, iv i)] [] S := by
  refine r_aload_n rfl rfl ?_
  refine r_aload_n rfl rfl ?_
  refine r_iload_n rfl rfl ?_
  refine r_iconst rfl ?_
  refine r_iadd rfl ?_
  refine r_scr rfl (by omega) (by omega) (by unfold rg; omega) ?_
  have f6 := xs_r (xs ((i + 1)).toNat)
  refine r_i2l rfl (by unfold rg; omega) ?_
  refine r_bipush rfl rfl ?_
  refine r_lshlF rfl ?_
  refine r_aload_n rfl rfl ?_
  refine r_iload_n rfl rfl ?_
  refine r_iconst rfl ?_
  refine r_iadd rfl ?_
  refine r_scr rfl (by omega) (by omega) (by unfold rg; omega) ?_
  have f7 := xs_r (xs ((i + 2)).toNat)
  refine r_i2l rfl (by unfold rg; omega) ?_
  refine r_ldc2 (z := 4294967295) rfl rfl ?_
  refine r_landF rfl ?_
  refine r_lorF rfl ?_
  refine r_aload_n rfl rfl ?_
  refine r_iload_n rfl rfl ?_
  refine r_iconst rfl ?_
  refine r_iadd rfl ?_
  refine r_scr rfl (by omega) (by omega) (by unfold rg; omega) ?_
  have f8 := xs_r (xs ((i + 3)).toNat)
  have K9 := hI
  obtain ⟨hH, ⟨ts, tq, hc⟩, hm⟩ := K9
  refine r_call rfl rfl rfl (t_fd_c hH ts ((lorF (lshlF (xs ((i + 1)).toNat).toInt 32) (landF (xs ((i + 2)).toNat).toInt 4294967295))) ((xs ((i + 3)).toNat).toInt) ⟨by omega, by omega⟩ hc.1.1 hc.1.2.2.1 99) ?_
  intro T12r T12 q13
  obtain ⟨q13, yT12⟩ := q13
  have J14 := cl_rs_feed__2 hI hc.1.1 q13
  obtain ⟨hHT12, fFT12, z10, rfl, g11, p15, p16, p17⟩ := q13
  have e18 := J14.2
  replace J14 := J14.1
  have h8_ := hc.1.1
  have tp_ := hc.1.2.2.1
  have hc_ := hc
  show LWK _ _ _ _ _ [iv z10] _
  refine r_aload_n rfl rfl ?_
  refine r_aload_n rfl rfl ?_
  refine r_iload_n rfl rfl ?_
  refine r_iconst rfl ?_
  refine r_iadd rfl ?_
  refine r_scr rfl (by omega) (by omega) (by unfold rg; omega) ?_
  have f19 := xs_r (xs ((i + 1)).toNat)
  refine r_i2l rfl (by unfold rg; omega) ?_
  refine r_bipush rfl rfl ?_
  refine r_lshlF rfl ?_
  refine r_aload_n rfl rfl ?_
  refine r_iload_n rfl rfl ?_
  refine r_iconst rfl ?_
  refine r_iadd rfl ?_
  refine r_scr rfl (by omega) (by omega) (by unfold rg; omega) ?_
  have f20 := xs_r (xs ((i + 2)).toNat)
  refine r_i2l rfl (by unfold rg; omega) ?_
  refine r_ldc2 (z := 4294967295) rfl rfl ?_
  refine r_landF rfl ?_
  refine r_lorF rfl ?_
  refine r_aload_n rfl rfl ?_
  refine r_iload_n rfl rfl ?_
  refine r_iconst rfl ?_
  refine r_iadd rfl ?_
  refine r_scr rfl (by omega) (by omega) (by unfold rg; omega) ?_
  have f21 := xs_r (xs ((i + 3)).toNat)
  have K22 := J14
  obtain ⟨hH, ⟨ts, tq, hc⟩, hm⟩ := K22
  refine r_call rfl rfl rfl (t_fd_m hH ((lorF (lshlF (xs ((i + 1)).toNat).toInt 32) (landF (xs ((i + 2)).toNat).toInt 4294967295))) ((xs ((i + 3)).toNat).toInt) ⟨by omega, by omega⟩ 99) ?_
  intro T25r T25 q26
  obtain ⟨q26, yT25⟩ := q26
  have J27 := lm_mo_feed J14 q26
  obtain ⟨hHT25, fFT25, z23, rfl, g24, p28, p29⟩ := q26
  have e30 := J27.2
  replace J27 := J27.1
  have E31 : RLL T25 := feed_l hI hHT25 hc_ hq hE p17 yT12.1 yT12.2 yT25.1 yT25.2 (by omega)
  show LWK _ _ _ _ _ [iv z23, iv z10] _
  refine r_icmp_eq rfl rfl (by unfold rg; omega) (by unfold rg; omega) (fun w33 => ?_) (fun w34 => absurd (by omega) w34)
  refine r_iinc rfl rfl rfl rfl ?_
  refine r_goto rfl rfl ?_
  exact LWK_weak (ih _ (by omega) (i + 4) T25 J27 (by omega) E31 (by omega) (by omega) rfl) (And.intro rfl (And.intro rfl (And.intro rfl (And.intro rfl True.intro))))
set_option maxRecDepth 100000 in
set_option maxHeartbeats 4000000 in
theorem case_1 {sl : Nat} {xs : Nat → Int32} (hsl : sl ≤ 2048) (i : Int) (S : sS) (hI : INV S) (hq : Xi S 0 10 = Xi S 904 1) (hE : RLL S) (h0 : 0 ≤ i) (h1 : i ≤ 2100) (hi4 : i + 4 ≤ sl) (ih : ∀ m, m < (3000 - i).toNat → ∀ (i : Int) (S : sS), INV S → Xi S 0 10 = Xi S 904 1 → RLL S → 0 ≤ i → i ≤ 2100 → m = (3000 - i).toNat → LWK sl xs 100 18 [(0, .ref SCR), (1, .ref 0), (2, .ref 904), (3, iv i)] [] S) : LWK sl xs 100 187 [(0, .ref SCR), (1, .ref 0), (2, .ref 904), (3, iv i)] [] S := by
  refine r_aload_n rfl rfl ?_
  have K35 := hI
  obtain ⟨hH, ⟨ts, tq, hc⟩, hm⟩ := K35
  refine r_call rfl rfl rfl (t_rs_wipe hH 99) ?_
  intro T38r T38 q39
  have J40 := cl_rs_wipe hI q39
  obtain ⟨hHT38, fFT38, z36, rfl, g37, p41⟩ := q39
  have e42 := J40.2
  replace J40 := J40.1
  show LWK _ _ _ _ _ [iv z36] _
  refine r_aload_n rfl rfl ?_
  have K43 := J40
  obtain ⟨hH, ⟨ts, tq, hc⟩, hm⟩ := K43
  refine r_call rfl rfl rfl (t_mo_wipe hH 99) ?_
  intro T46r T46 q47
  have J48 := lm_mo_wipe J40 q47
  obtain ⟨hHT46, fFT46, z44, rfl, g45, p49⟩ := q47
  have e50 := J48.2
  replace J48 := J48.1
  have E51 : RLL T46 := wipe_l hI hE fFT38 fFT46 (by omega)
  show LWK _ _ _ _ _ [iv z44, iv z36] _
  refine r_icmp_eq rfl rfl (by unfold rg; omega) (by unfold rg; omega) (fun w53 => ?_) (fun w54 => absurd (by omega) w54)
  refine r_iinc rfl rfl rfl rfl ?_
  refine r_goto rfl rfl ?_
  exact LWK_weak (ih _ (by omega) (i + 4) T46 J48 (by omega) E51 (by omega) (by omega) rfl) (And.intro rfl (And.intro rfl (And.intro rfl (And.intro rfl True.intro))))
set_option maxRecDepth 100000 in
set_option maxHeartbeats 4000000 in
theorem case_2 {sl : Nat} {xs : Nat → Int32} (hsl : sl ≤ 2048) (i : Int) (S : sS) (hI : INV S) (hq : Xi S 0 10 = Xi S 904 1) (hE : RLL S) (h0 : 0 ≤ i) (h1 : i ≤ 2100) (hi4 : i + 4 ≤ sl) (ih : ∀ m, m < (3000 - i).toNat → ∀ (i : Int) (S : sS), INV S → Xi S 0 10 = Xi S 904 1 → RLL S → 0 ≤ i → i ≤ 2100 → m = (3000 - i).toNat → LWK sl xs 100 18 [(0, .ref SCR), (1, .ref 0), (2, .ref 904), (3, iv i)] [] S) : LWK sl xs 100 200 [(0, .ref SCR), (1, .ref 0), (2, .ref 904), (3, iv i)] [] S := by
  refine r_aload_n rfl rfl ?_
  have K55 := hI
  obtain ⟨hH, ⟨ts, tq, hc⟩, hm⟩ := K55
  refine r_call rfl rfl rfl (t_rd_o hH ts tq hc.1.1 hc.1.2.1 hc.1.2.2.1 hc.1.2.2.2.1 90) ?_
  intro T58r T58 q59
  obtain ⟨q59, yT58⟩ := q59
  obtain ⟨q59, oT58⟩ := q59
  have J60 := cl_rs_read__2 hI hc.1.1 hc.1.2.1 q59
  obtain ⟨hHT58, fFT58, z56, rfl, g57, p61, p62, p63, p64, p65, p66, p67⟩ := q59
  have e68 := J60.2
  replace J60 := J60.1
  have h8_ := hc.1.1
  have tp_ := hc.1.2.2.1
  have hc_ := hc
  have yT58r := yT58.2 z56 (by unfold rg; omega) rfl
  show LWK _ _ _ _ _ [iv z56] _
  refine r_aload_n rfl rfl ?_
  have K69 := J60
  obtain ⟨hH, ⟨ts, tq, hc⟩, hm⟩ := K69
  refine r_call rfl rfl rfl (t_rd_n hH hm.1.2.2.2.2.1 hm.1.2.1 hm.2.2.2 hm.2.1 hm.2.2.1 85) ?_
  intro T72r T72 q73
  obtain ⟨q73, yT72⟩ := q73
  have J74 := lm_mo_read__2 J60 q73
  obtain ⟨hHT72, fFT72, z70, rfl, g71, p75, p76, p77, p78⟩ := q73
  have e79 := J74.2
  replace J74 := J74.1
  have yT72r := yT72.2 z70 (by unfold rg; omega) rfl
  have ⟨s81, E80⟩ := read_l hI hHT58 J74 h8_ tp_ hq hE yT58.1 yT58r yT72.1 yT72r (by omega) oT58
  show LWK _ _ _ _ _ [iv z70, iv z56] _
  refine r_icmp_eq rfl rfl (by unfold rg; omega) (by unfold rg; omega) (fun w82 => ?_) (fun w83 => absurd (by omega) w83)
  refine r_iinc rfl rfl rfl rfl ?_
  refine r_goto rfl rfl ?_
  exact LWK_weak (ih _ (by omega) (i + 4) T72 J74 (by omega) E80 (by omega) (by omega) rfl) (And.intro rfl (And.intro rfl (And.intro rfl (And.intro rfl True.intro))))
set_option maxRecDepth 100000 in
set_option maxHeartbeats 4000000 in
theorem case_3 {sl : Nat} {xs : Nat → Int32} (hsl : sl ≤ 2048) (i : Int) (S : sS) (hI : INV S) (hq : Xi S 0 10 = Xi S 904 1) (hE : RLL S) (h0 : 0 ≤ i) (h1 : i ≤ 2100) (hi4 : i + 4 ≤ sl) (ih : ∀ m, m < (3000 - i).toNat → ∀ (i : Int) (S : sS), INV S → Xi S 0 10 = Xi S 904 1 → RLL S → 0 ≤ i → i ≤ 2100 → m = (3000 - i).toNat → LWK sl xs 100 18 [(0, .ref SCR), (1, .ref 0), (2, .ref 904), (3, iv i)] [] S) : LWK sl xs 100 213 [(0, .ref SCR), (1, .ref 0), (2, .ref 904), (3, iv i)] [] S := by
  refine r_aload_n rfl rfl ?_
  have K84 := hI
  obtain ⟨hH, ⟨ts, tq, hc⟩, hm⟩ := K84
  refine r_call rfl rfl rfl (t_rs_fault__t hH 99) ?_
  rintro _ _ ⟨rfl, z85, rfl, g86, p87⟩
  show LWK _ _ _ _ _ [iv z85] _
  refine r_aload_n rfl rfl ?_
  have K88 := hI
  obtain ⟨hH, ⟨ts, tq, hc⟩, hm⟩ := K88
  refine r_call rfl rfl rfl (t_mo_fault__t hH 99) ?_
  rintro _ _ ⟨rfl, z89, rfl, g90, p91⟩
  have s92 := hE.1.2.1
  show LWK _ _ _ _ _ [iv z89, iv z85] _
  refine r_icmp_eq rfl rfl (by unfold rg; omega) (by unfold rg; omega) (fun w93 => ?_) (fun w94 => absurd (by omega) w94)
  refine r_iinc rfl rfl rfl rfl ?_
  refine r_goto rfl rfl ?_
  exact LWK_weak (ih _ (by omega) (i + 4) S hI (by omega) hE (by omega) (by omega) rfl) (And.intro rfl (And.intro rfl (And.intro rfl (And.intro rfl True.intro))))
set_option maxRecDepth 100000 in
set_option maxHeartbeats 4000000 in
theorem case_4 {sl : Nat} {xs : Nat → Int32} (hsl : sl ≤ 2048) (i : Int) (S : sS) (hI : INV S) (hq : Xi S 0 10 = Xi S 904 1) (hE : RLL S) (h0 : 0 ≤ i) (h1 : i ≤ 2100) (hi4 : i + 4 ≤ sl) (ih : ∀ m, m < (3000 - i).toNat → ∀ (i : Int) (S : sS), INV S → Xi S 0 10 = Xi S 904 1 → RLL S → 0 ≤ i → i ≤ 2100 → m = (3000 - i).toNat → LWK sl xs 100 18 [(0, .ref SCR), (1, .ref 0), (2, .ref 904), (3, iv i)] [] S) : LWK sl xs 100 226 [(0, .ref SCR), (1, .ref 0), (2, .ref 904), (3, iv i)] [] S := by
  refine r_aload_n rfl rfl ?_
  refine r_aload_n rfl rfl ?_
  refine r_iload_n rfl rfl ?_
  refine r_iconst rfl ?_
  refine r_iadd rfl ?_
  refine r_scr rfl (by omega) (by omega) (by unfold rg; omega) ?_
  have f95 := xs_r (xs ((i + 1)).toNat)
  have K96 := hI
  obtain ⟨hH, ⟨ts, tq, hc⟩, hm⟩ := K96
  refine r_call rfl rfl rfl (t_rs_told__q hH ((xs ((i + 1)).toNat).toInt) ⟨by omega, by omega⟩ 98) ?_
  rintro _ _ ⟨rfl, z97, rfl, g98, p99⟩
  show LWK _ _ _ _ _ [iv z97] _
  refine r_aload_n rfl rfl ?_
  refine r_aload_n rfl rfl ?_
  refine r_iload_n rfl rfl ?_
  refine r_iconst rfl ?_
  refine r_iadd rfl ?_
  refine r_scr rfl (by omega) (by omega) (by unfold rg; omega) ?_
  have f100 := xs_r (xs ((i + 1)).toNat)
  have K101 := hI
  obtain ⟨hH, ⟨ts, tq, hc⟩, hm⟩ := K101
  refine r_call rfl rfl rfl (t_mo_told__q hH ((xs ((i + 1)).toNat).toInt) ⟨by omega, by omega⟩ 99) ?_
  rintro _ _ ⟨rfl, z102, rfl, g103, p104⟩
  have s105 : z97 = z102 := told_same hE.2.1.1 p99 p104
  show LWK _ _ _ _ _ [iv z102, iv z97] _
  refine r_icmp_eq rfl rfl (by unfold rg; omega) (by unfold rg; omega) (fun w106 => ?_) (fun w107 => absurd (by omega) w107)
  refine r_iinc rfl rfl rfl rfl ?_
  refine r_goto rfl rfl ?_
  exact LWK_weak (ih _ (by omega) (i + 4) S hI (by omega) hE (by omega) (by omega) rfl) (And.intro rfl (And.intro rfl (And.intro rfl (And.intro rfl True.intro))))
set_option maxRecDepth 100000 in
set_option maxHeartbeats 4000000 in
theorem case_5 {sl : Nat} {xs : Nat → Int32} (hsl : sl ≤ 2048) (i : Int) (S : sS) (hI : INV S) (hq : Xi S 0 10 = Xi S 904 1) (hE : RLL S) (h0 : 0 ≤ i) (h1 : i ≤ 2100) (hi4 : i + 4 ≤ sl) (ih : ∀ m, m < (3000 - i).toNat → ∀ (i : Int) (S : sS), INV S → Xi S 0 10 = Xi S 904 1 → RLL S → 0 ≤ i → i ≤ 2100 → m = (3000 - i).toNat → LWK sl xs 100 18 [(0, .ref SCR), (1, .ref 0), (2, .ref 904), (3, iv i)] [] S) : LWK sl xs 100 249 [(0, .ref SCR), (1, .ref 0), (2, .ref 904), (3, iv i)] [] S := by
  refine r_aload_n rfl rfl ?_
  refine r_aload_n rfl rfl ?_
  refine r_iload_n rfl rfl ?_
  refine r_iconst rfl ?_
  refine r_iadd rfl ?_
  refine r_scr rfl (by omega) (by omega) (by unfold rg; omega) ?_
  have f108 := xs_r (xs ((i + 1)).toNat)
  refine r_aload_n rfl rfl ?_
  refine r_iload_n rfl rfl ?_
  refine r_iconst rfl ?_
  refine r_iadd rfl ?_
  refine r_scr rfl (by omega) (by omega) (by unfold rg; omega) ?_
  have f109 := xs_r (xs ((i + 2)).toNat)
  refine r_aload_n rfl rfl ?_
  refine r_iload_n rfl rfl ?_
  refine r_iconst rfl ?_
  refine r_iadd rfl ?_
  refine r_scr rfl (by omega) (by omega) (by unfold rg; omega) ?_
  have f110 := xs_r (xs ((i + 3)).toNat)
  have K111 := hI
  obtain ⟨hH, ⟨ts, tq, hc⟩, hm⟩ := K111
  refine r_call rfl rfl rfl (t_rs_name__q hH ((xs ((i + 1)).toNat).toInt) ((xs ((i + 2)).toNat).toInt) ((xs ((i + 3)).toNat).toInt) ⟨by omega, by omega⟩ ⟨by omega, by omega⟩ ⟨by omega, by omega⟩ (cw_of hE.2.1.1.1.1.1) 98) ?_
  rintro _ _ ⟨rfl, z112, rfl, g113, p114⟩
  show LWK _ _ _ _ _ [iv z112] _
  refine r_aload_n rfl rfl ?_
  refine r_aload_n rfl rfl ?_
  refine r_iload_n rfl rfl ?_
  refine r_iconst rfl ?_
  refine r_iadd rfl ?_
  refine r_scr rfl (by omega) (by omega) (by unfold rg; omega) ?_
  have f115 := xs_r (xs ((i + 1)).toNat)
  refine r_aload_n rfl rfl ?_
  refine r_iload_n rfl rfl ?_
  refine r_iconst rfl ?_
  refine r_iadd rfl ?_
  refine r_scr rfl (by omega) (by omega) (by unfold rg; omega) ?_
  have f116 := xs_r (xs ((i + 2)).toNat)
  refine r_aload_n rfl rfl ?_
  refine r_iload_n rfl rfl ?_
  refine r_iconst rfl ?_
  refine r_iadd rfl ?_
  refine r_scr rfl (by omega) (by omega) (by unfold rg; omega) ?_
  have f117 := xs_r (xs ((i + 3)).toNat)
  have K118 := hI
  obtain ⟨hH, ⟨ts, tq, hc⟩, hm⟩ := K118
  refine r_call rfl rfl rfl (t_mo_name_2__q hH ((xs ((i + 1)).toNat).toInt) ((xs ((i + 2)).toNat).toInt) ((xs ((i + 3)).toNat).toInt) ⟨by omega, by omega⟩ ⟨by omega, by omega⟩ ⟨by omega, by omega⟩ (nmw2_of hE.2.1.1.1.1) 97) ?_
  rintro _ _ ⟨rfl, z119, rfl, g120, p121⟩
  have s122 : z112 = z119 := name_sm hE.2.1.1 p114 p121
  show LWK _ _ _ _ _ [iv z119, iv z112] _
  refine r_icmp_eq rfl rfl (by unfold rg; omega) (by unfold rg; omega) (fun w123 => ?_) (fun w124 => absurd (by omega) w124)
  refine r_iinc rfl rfl rfl rfl ?_
  refine r_goto rfl rfl ?_
  exact LWK_weak (ih _ (by omega) (i + 4) S hI (by omega) hE (by omega) (by omega) rfl) (And.intro rfl (And.intro rfl (And.intro rfl (And.intro rfl True.intro))))
set_option maxRecDepth 100000 in
set_option maxHeartbeats 4000000 in
theorem case_6 {sl : Nat} {xs : Nat → Int32} (hsl : sl ≤ 2048) (i : Int) (S : sS) (hI : INV S) (hq : Xi S 0 10 = Xi S 904 1) (hE : RLL S) (h0 : 0 ≤ i) (h1 : i ≤ 2100) (hi4 : i + 4 ≤ sl) (ih : ∀ m, m < (3000 - i).toNat → ∀ (i : Int) (S : sS), INV S → Xi S 0 10 = Xi S 904 1 → RLL S → 0 ≤ i → i ≤ 2100 → m = (3000 - i).toNat → LWK sl xs 100 18 [(0, .ref SCR), (1, .ref 0), (2, .ref 904), (3, iv i)] [] S) : LWK sl xs 100 292 [(0, .ref SCR), (1, .ref 0), (2, .ref 904), (3, iv i)] [] S := by
  refine r_aload_n rfl rfl ?_
  refine r_aload_n rfl rfl ?_
  refine r_iload_n rfl rfl ?_
  refine r_iconst rfl ?_
  refine r_iadd rfl ?_
  refine r_scr rfl (by omega) (by omega) (by unfold rg; omega) ?_
  have f125 := xs_r (xs ((i + 1)).toNat)
  refine r_aload_n rfl rfl ?_
  refine r_iload_n rfl rfl ?_
  refine r_iconst rfl ?_
  refine r_iadd rfl ?_
  refine r_scr rfl (by omega) (by omega) (by unfold rg; omega) ?_
  have f126 := xs_r (xs ((i + 2)).toNat)
  have K127 := hI
  obtain ⟨hH, ⟨ts, tq, hc⟩, hm⟩ := K127
  refine r_call rfl rfl rfl (t_rs_kind__q hH ((xs ((i + 1)).toNat).toInt) ((xs ((i + 2)).toNat).toInt) ⟨by omega, by omega⟩ ⟨by omega, by omega⟩ 97) ?_
  rintro _ _ ⟨rfl, z128, rfl, g129, p130⟩
  show LWK _ _ _ _ _ [iv z128] _
  refine r_aload_n rfl rfl ?_
  refine r_aload_n rfl rfl ?_
  refine r_iload_n rfl rfl ?_
  refine r_iconst rfl ?_
  refine r_iadd rfl ?_
  refine r_scr rfl (by omega) (by omega) (by unfold rg; omega) ?_
  have f131 := xs_r (xs ((i + 1)).toNat)
  refine r_aload_n rfl rfl ?_
  refine r_iload_n rfl rfl ?_
  refine r_iconst rfl ?_
  refine r_iadd rfl ?_
  refine r_scr rfl (by omega) (by omega) (by unfold rg; omega) ?_
  have f132 := xs_r (xs ((i + 2)).toNat)
  have K133 := hI
  obtain ⟨hH, ⟨ts, tq, hc⟩, hm⟩ := K133
  refine r_call rfl rfl rfl (t_mo_kind__q hH ((xs ((i + 1)).toNat).toInt) ((xs ((i + 2)).toNat).toInt) ⟨by omega, by omega⟩ ⟨by omega, by omega⟩ hm.1.2.2.2.2.1 98) ?_
  rintro _ _ ⟨rfl, z134, rfl, g135, p136⟩
  have s137 : z128 = z134 := kind_l hE.2.1.1.1 p130 p136
  show LWK _ _ _ _ _ [iv z134, iv z128] _
  refine r_icmp_eq rfl rfl (by unfold rg; omega) (by unfold rg; omega) (fun w138 => ?_) (fun w139 => absurd (by omega) w139)
  refine r_iinc rfl rfl rfl rfl ?_
  refine r_goto rfl rfl ?_
  exact LWK_weak (ih _ (by omega) (i + 4) S hI (by omega) hE (by omega) (by omega) rfl) (And.intro rfl (And.intro rfl (And.intro rfl (And.intro rfl True.intro))))
set_option maxRecDepth 100000 in
set_option maxHeartbeats 4000000 in
theorem case_7 {sl : Nat} {xs : Nat → Int32} (hsl : sl ≤ 2048) (i : Int) (S : sS) (hI : INV S) (hq : Xi S 0 10 = Xi S 904 1) (hE : RLL S) (h0 : 0 ≤ i) (h1 : i ≤ 2100) (hi4 : i + 4 ≤ sl) (ih : ∀ m, m < (3000 - i).toNat → ∀ (i : Int) (S : sS), INV S → Xi S 0 10 = Xi S 904 1 → RLL S → 0 ≤ i → i ≤ 2100 → m = (3000 - i).toNat → LWK sl xs 100 18 [(0, .ref SCR), (1, .ref 0), (2, .ref 904), (3, iv i)] [] S) : LWK sl xs 100 325 [(0, .ref SCR), (1, .ref 0), (2, .ref 904), (3, iv i)] [] S := by
  refine r_aload_n rfl rfl ?_
  refine r_aload_n rfl rfl ?_
  refine r_iload_n rfl rfl ?_
  refine r_iconst rfl ?_
  refine r_iadd rfl ?_
  refine r_scr rfl (by omega) (by omega) (by unfold rg; omega) ?_
  have f140 := xs_r (xs ((i + 1)).toNat)
  refine r_aload_n rfl rfl ?_
  refine r_iload_n rfl rfl ?_
  refine r_iconst rfl ?_
  refine r_iadd rfl ?_
  refine r_scr rfl (by omega) (by omega) (by unfold rg; omega) ?_
  have f141 := xs_r (xs ((i + 2)).toNat)
  have K142 := hI
  obtain ⟨hH, ⟨ts, tq, hc⟩, hm⟩ := K142
  refine r_call rfl rfl rfl (t_rs_object__q hH ((xs ((i + 1)).toNat).toInt) ((xs ((i + 2)).toNat).toInt) ⟨by omega, by omega⟩ ⟨by omega, by omega⟩ 97) ?_
  rintro _ _ ⟨rfl, z143, rfl, g144, p145⟩
  show LWK _ _ _ _ _ [iv z143] _
  refine r_aload_n rfl rfl ?_
  refine r_aload_n rfl rfl ?_
  refine r_iload_n rfl rfl ?_
  refine r_iconst rfl ?_
  refine r_iadd rfl ?_
  refine r_scr rfl (by omega) (by omega) (by unfold rg; omega) ?_
  have f146 := xs_r (xs ((i + 1)).toNat)
  refine r_aload_n rfl rfl ?_
  refine r_iload_n rfl rfl ?_
  refine r_iconst rfl ?_
  refine r_iadd rfl ?_
  refine r_scr rfl (by omega) (by omega) (by unfold rg; omega) ?_
  have f147 := xs_r (xs ((i + 2)).toNat)
  have K148 := hI
  obtain ⟨hH, ⟨ts, tq, hc⟩, hm⟩ := K148
  refine r_call rfl rfl rfl (t_mo_object__q hH ((xs ((i + 1)).toNat).toInt) ((xs ((i + 2)).toNat).toInt) ⟨by omega, by omega⟩ ⟨by omega, by omega⟩ 98) ?_
  rintro _ _ ⟨rfl, z149, rfl, g150, p151⟩
  have s152 : z143 = z149 := object_same hE.2.1.1.1 p145 p151
  show LWK _ _ _ _ _ [iv z149, iv z143] _
  refine r_icmp_eq rfl rfl (by unfold rg; omega) (by unfold rg; omega) (fun w153 => ?_) (fun w154 => absurd (by omega) w154)
  refine r_iinc rfl rfl rfl rfl ?_
  refine r_goto rfl rfl ?_
  exact LWK_weak (ih _ (by omega) (i + 4) S hI (by omega) hE (by omega) (by omega) rfl) (And.intro rfl (And.intro rfl (And.intro rfl (And.intro rfl True.intro))))
set_option maxRecDepth 100000 in
set_option maxHeartbeats 4000000 in
theorem case_8 {sl : Nat} {xs : Nat → Int32} (hsl : sl ≤ 2048) (i : Int) (S : sS) (hI : INV S) (hq : Xi S 0 10 = Xi S 904 1) (hE : RLL S) (h0 : 0 ≤ i) (h1 : i ≤ 2100) (hi4 : i + 4 ≤ sl) (ih : ∀ m, m < (3000 - i).toNat → ∀ (i : Int) (S : sS), INV S → Xi S 0 10 = Xi S 904 1 → RLL S → 0 ≤ i → i ≤ 2100 → m = (3000 - i).toNat → LWK sl xs 100 18 [(0, .ref SCR), (1, .ref 0), (2, .ref 904), (3, iv i)] [] S) : LWK sl xs 100 358 [(0, .ref SCR), (1, .ref 0), (2, .ref 904), (3, iv i)] [] S := by
  refine r_aload_n rfl rfl ?_
  refine r_aload_n rfl rfl ?_
  refine r_iload_n rfl rfl ?_
  refine r_iconst rfl ?_
  refine r_iadd rfl ?_
  refine r_scr rfl (by omega) (by omega) (by unfold rg; omega) ?_
  have f155 := xs_r (xs ((i + 1)).toNat)
  refine r_aload_n rfl rfl ?_
  refine r_iload_n rfl rfl ?_
  refine r_iconst rfl ?_
  refine r_iadd rfl ?_
  refine r_scr rfl (by omega) (by omega) (by unfold rg; omega) ?_
  have f156 := xs_r (xs ((i + 2)).toNat)
  have K157 := hI
  obtain ⟨hH, ⟨ts, tq, hc⟩, hm⟩ := K157
  refine r_call rfl rfl rfl (t_rs_is__q hH ((xs ((i + 1)).toNat).toInt) ((xs ((i + 2)).toNat).toInt) ⟨by omega, by omega⟩ ⟨by omega, by omega⟩ hc.2.1.2.2.1 hc.2.1.2.1 74) ?_
  intro T158r T158 q158
  obtain ⟨hHT158, F158, z158, rfl, g159, p160⟩ := q158
  replace F158 : FR zcM S T158 := F158
  have I158 := is_inv hI hHT158 F158
  have n158 : Xi T158 0 10 = Xi S 0 10 := F158.x _ _ rfl
  have m158 : Xi T158 904 1 = Xi S 904 1 := F158.x _ _ rfl
  have R158 : RLL T158 := is_l hI hE F158
  show LWK _ _ _ _ _ [iv z158] _
  refine r_aload_n rfl rfl ?_
  refine r_aload_n rfl rfl ?_
  refine r_iload_n rfl rfl ?_
  refine r_iconst rfl ?_
  refine r_iadd rfl ?_
  refine r_scr rfl (by omega) (by omega) (by unfold rg; omega) ?_
  have f161 := xs_r (xs ((i + 1)).toNat)
  refine r_aload_n rfl rfl ?_
  refine r_iload_n rfl rfl ?_
  refine r_iconst rfl ?_
  refine r_iadd rfl ?_
  refine r_scr rfl (by omega) (by omega) (by unfold rg; omega) ?_
  have f162 := xs_r (xs ((i + 2)).toNat)
  have K163 := I158
  obtain ⟨hH, ⟨ts, tq, hc⟩, hm⟩ := K163
  refine r_call rfl rfl rfl (t_mo_is__q hH ((xs ((i + 1)).toNat).toInt) ((xs ((i + 2)).toNat).toInt) ⟨by omega, by omega⟩ ⟨by omega, by omega⟩ hm.1.2.2.2.2.1 hm.1.1 hm.1.2.2.2.2.2.2.2.2.2.1.2.1 74) ?_
  intro T166r T166 q167
  have q2T166 := q167
  replace q167 := dq_mo_is q167
  have J168 := lm_mo_is I158 q167
  obtain ⟨hHT166, fFT166, z164, rfl, g165⟩ := q167
  obtain ⟨_, gFT166, z170, e172, g171, p169⟩ := q2T166
  replace e172 := iv_i e172 (by unfold rg; omega) (by unfold rg; omega)
  have e173 : Xi T166 904 1 = Xi T158 904 1 := fFT166.x _ _ rfl
  have e174 := J168.2
  replace J168 := J168.1
  have s176 : z158 = z170 := is_same (is_b hE F158) (fun j => hHT158.c 940 j) (is_p p160) p169
  have E175 : RLL T166 := num_l I158 R158 gFT166
  show LWK _ _ _ _ _ [iv z164, iv z158] _
  refine r_icmp_eq rfl rfl (by unfold rg; omega) (by unfold rg; omega) (fun w177 => ?_) (fun w178 => absurd (by omega) w178)
  refine r_iinc rfl rfl rfl rfl ?_
  refine r_goto rfl rfl ?_
  exact LWK_weak (ih _ (by omega) (i + 4) T166 J168 (by omega) E175 (by omega) (by omega) rfl) (And.intro rfl (And.intro rfl (And.intro rfl (And.intro rfl True.intro))))
set_option maxRecDepth 100000 in
set_option maxHeartbeats 4000000 in
theorem case_9 {sl : Nat} {xs : Nat → Int32} (hsl : sl ≤ 2048) (i : Int) (S : sS) (hI : INV S) (hq : Xi S 0 10 = Xi S 904 1) (hE : RLL S) (h0 : 0 ≤ i) (h1 : i ≤ 2100) (hi4 : i + 4 ≤ sl) (ih : ∀ m, m < (3000 - i).toNat → ∀ (i : Int) (S : sS), INV S → Xi S 0 10 = Xi S 904 1 → RLL S → 0 ≤ i → i ≤ 2100 → m = (3000 - i).toNat → LWK sl xs 100 18 [(0, .ref SCR), (1, .ref 0), (2, .ref 904), (3, iv i)] [] S) : LWK sl xs 100 391 [(0, .ref SCR), (1, .ref 0), (2, .ref 904), (3, iv i)] [] S := by
  refine r_aload_n rfl rfl ?_
  refine r_aload_n rfl rfl ?_
  refine r_iload_n rfl rfl ?_
  refine r_iconst rfl ?_
  refine r_iadd rfl ?_
  refine r_scr rfl (by omega) (by omega) (by unfold rg; omega) ?_
  have f179 := xs_r (xs ((i + 1)).toNat)
  refine r_aload_n rfl rfl ?_
  refine r_iload_n rfl rfl ?_
  refine r_iconst rfl ?_
  refine r_iadd rfl ?_
  refine r_scr rfl (by omega) (by omega) (by unfold rg; omega) ?_
  have f180 := xs_r (xs ((i + 2)).toNat)
  have K181 := hI
  obtain ⟨hH, ⟨ts, tq, hc⟩, hm⟩ := K181
  refine r_call rfl rfl rfl (t_rs_property__q hH ((xs ((i + 1)).toNat).toInt) ((xs ((i + 2)).toNat).toInt) ⟨by omega, by omega⟩ ⟨by omega, by omega⟩ 96) ?_
  rintro _ _ ⟨rfl, z182, rfl, g183, p184⟩
  show LWK _ _ _ _ _ [iv z182] _
  refine r_aload_n rfl rfl ?_
  refine r_aload_n rfl rfl ?_
  refine r_iload_n rfl rfl ?_
  refine r_iconst rfl ?_
  refine r_iadd rfl ?_
  refine r_scr rfl (by omega) (by omega) (by unfold rg; omega) ?_
  have f185 := xs_r (xs ((i + 1)).toNat)
  refine r_aload_n rfl rfl ?_
  refine r_iload_n rfl rfl ?_
  refine r_iconst rfl ?_
  refine r_iadd rfl ?_
  refine r_scr rfl (by omega) (by omega) (by unfold rg; omega) ?_
  have f186 := xs_r (xs ((i + 2)).toNat)
  have K187 := hI
  obtain ⟨hH, ⟨ts, tq, hc⟩, hm⟩ := K187
  refine r_call rfl rfl rfl (t_mo_property_2__q hH ((xs ((i + 1)).toNat).toInt) ((xs ((i + 2)).toNat).toInt) ⟨by omega, by omega⟩ ⟨by omega, by omega⟩ hm.1.2.2.2.2.1 hm.1.1 97) ?_
  intro T190r T190 q191
  have q2T190 := q191
  replace q191 := dq_mo_property_2 q191
  have J192 := lm_mo_property_2 hI q191
  obtain ⟨hHT190, fFT190, z188, rfl, g189⟩ := q191
  obtain ⟨_, gFT190, z194, e196, g195, p193⟩ := q2T190
  replace e196 := iv_i e196 (by unfold rg; omega) (by unfold rg; omega)
  have e197 : Xi T190 904 1 = Xi S 904 1 := fFT190.x _ _ rfl
  have e198 := J192.2
  replace J192 := J192.1
  have s200 : z182 = z194 := property_same hE.2.1.1.1 p184 p193
  have E199 : RLL T190 := num_l hI hE gFT190
  show LWK _ _ _ _ _ [iv z188, iv z182] _
  refine r_icmp_eq rfl rfl (by unfold rg; omega) (by unfold rg; omega) (fun w201 => ?_) (fun w202 => absurd (by omega) w202)
  refine r_iinc rfl rfl rfl rfl ?_
  refine r_goto rfl rfl ?_
  exact LWK_weak (ih _ (by omega) (i + 4) T190 J192 (by omega) E199 (by omega) (by omega) rfl) (And.intro rfl (And.intro rfl (And.intro rfl (And.intro rfl True.intro))))
set_option maxRecDepth 100000 in
set_option maxHeartbeats 4000000 in
theorem case_10 {sl : Nat} {xs : Nat → Int32} (hsl : sl ≤ 2048) (i : Int) (S : sS) (hI : INV S) (hq : Xi S 0 10 = Xi S 904 1) (hE : RLL S) (h0 : 0 ≤ i) (h1 : i ≤ 2100) (hi4 : i + 4 ≤ sl) (ih : ∀ m, m < (3000 - i).toNat → ∀ (i : Int) (S : sS), INV S → Xi S 0 10 = Xi S 904 1 → RLL S → 0 ≤ i → i ≤ 2100 → m = (3000 - i).toNat → LWK sl xs 100 18 [(0, .ref SCR), (1, .ref 0), (2, .ref 904), (3, iv i)] [] S) : LWK sl xs 100 424 [(0, .ref SCR), (1, .ref 0), (2, .ref 904), (3, iv i)] [] S := by
  refine r_aload_n rfl rfl ?_
  refine r_aload_n rfl rfl ?_
  refine r_iload_n rfl rfl ?_
  refine r_iconst rfl ?_
  refine r_iadd rfl ?_
  refine r_scr rfl (by omega) (by omega) (by unfold rg; omega) ?_
  have f203 := xs_r (xs ((i + 1)).toNat)
  refine r_aload_n rfl rfl ?_
  refine r_iload_n rfl rfl ?_
  refine r_iconst rfl ?_
  refine r_iadd rfl ?_
  refine r_scr rfl (by omega) (by omega) (by unfold rg; omega) ?_
  have f204 := xs_r (xs ((i + 2)).toNat)
  refine r_aload_n rfl rfl ?_
  refine r_iload_n rfl rfl ?_
  refine r_iconst rfl ?_
  refine r_iadd rfl ?_
  refine r_scr rfl (by omega) (by omega) (by unfold rg; omega) ?_
  have f205 := xs_r (xs ((i + 3)).toNat)
  have K206 := hI
  obtain ⟨hH, ⟨ts, tq, hc⟩, hm⟩ := K206
  refine r_call rfl rfl rfl (t_rs_letter__q hH ((xs ((i + 1)).toNat).toInt) ((xs ((i + 2)).toNat).toInt) ((xs ((i + 3)).toNat).toInt) ⟨by omega, by omega⟩ ⟨by omega, by omega⟩ ⟨by omega, by omega⟩ hc.2.1.2.1 96) ?_
  rintro _ _ ⟨rfl, z207, rfl, g208, p209⟩
  show LWK _ _ _ _ _ [iv z207] _
  refine r_aload_n rfl rfl ?_
  refine r_aload_n rfl rfl ?_
  refine r_iload_n rfl rfl ?_
  refine r_iconst rfl ?_
  refine r_iadd rfl ?_
  refine r_scr rfl (by omega) (by omega) (by unfold rg; omega) ?_
  have f210 := xs_r (xs ((i + 1)).toNat)
  refine r_aload_n rfl rfl ?_
  refine r_iload_n rfl rfl ?_
  refine r_iconst rfl ?_
  refine r_iadd rfl ?_
  refine r_scr rfl (by omega) (by omega) (by unfold rg; omega) ?_
  have f211 := xs_r (xs ((i + 2)).toNat)
  refine r_aload_n rfl rfl ?_
  refine r_iload_n rfl rfl ?_
  refine r_iconst rfl ?_
  refine r_iadd rfl ?_
  refine r_scr rfl (by omega) (by omega) (by unfold rg; omega) ?_
  have f212 := xs_r (xs ((i + 3)).toNat)
  have K213 := hI
  obtain ⟨hH, ⟨ts, tq, hc⟩, hm⟩ := K213
  refine r_call rfl rfl rfl (t_mo_letter__q hH ((xs ((i + 1)).toNat).toInt) ((xs ((i + 2)).toNat).toInt) ((xs ((i + 3)).toNat).toInt) ⟨by omega, by omega⟩ ⟨by omega, by omega⟩ ⟨by omega, by omega⟩ hm.1.2.2.2.2.1 hm.1.1 97) ?_
  intro T216r T216 q217
  have q2T216 := q217
  replace q217 := dq_mo_letter q217
  have J218 := lm_mo_letter hI q217
  obtain ⟨hHT216, fFT216, z214, rfl, g215⟩ := q217
  obtain ⟨_, gFT216, z220, e222, g221, p219⟩ := q2T216
  replace e222 := iv_i e222 (by unfold rg; omega) (by unfold rg; omega)
  have e223 : Xi T216 904 1 = Xi S 904 1 := fFT216.x _ _ rfl
  have e224 := J218.2
  replace J218 := J218.1
  have s226 : z207 = z220 := letter_same hE.2.1.1.1 p209 p219
  have E225 : RLL T216 := num_l hI hE gFT216
  show LWK _ _ _ _ _ [iv z214, iv z207] _
  refine r_icmp_eq rfl rfl (by unfold rg; omega) (by unfold rg; omega) (fun w227 => ?_) (fun w228 => absurd (by omega) w228)
  refine r_iinc rfl rfl rfl rfl ?_
  refine r_goto rfl rfl ?_
  exact LWK_weak (ih _ (by omega) (i + 4) T216 J218 (by omega) E225 (by omega) (by omega) rfl) (And.intro rfl (And.intro rfl (And.intro rfl (And.intro rfl True.intro))))
set_option maxRecDepth 100000 in
set_option maxHeartbeats 4000000 in
theorem case_11 {sl : Nat} {xs : Nat → Int32} (hsl : sl ≤ 2048) (i : Int) (S : sS) (hI : INV S) (hq : Xi S 0 10 = Xi S 904 1) (hE : RLL S) (h0 : 0 ≤ i) (h1 : i ≤ 2100) (hi4 : i + 4 ≤ sl) (ih : ∀ m, m < (3000 - i).toNat → ∀ (i : Int) (S : sS), INV S → Xi S 0 10 = Xi S 904 1 → RLL S → 0 ≤ i → i ≤ 2100 → m = (3000 - i).toNat → LWK sl xs 100 18 [(0, .ref SCR), (1, .ref 0), (2, .ref 904), (3, iv i)] [] S) : LWK sl xs 100 467 [(0, .ref SCR), (1, .ref 0), (2, .ref 904), (3, iv i)] [] S := by
  refine r_aload_n rfl rfl ?_
  refine r_aload_n rfl rfl ?_
  refine r_iload_n rfl rfl ?_
  refine r_iconst rfl ?_
  refine r_iadd rfl ?_
  refine r_scr rfl (by omega) (by omega) (by unfold rg; omega) ?_
  have f229 := xs_r (xs ((i + 1)).toNat)
  refine r_aload_n rfl rfl ?_
  refine r_iload_n rfl rfl ?_
  refine r_iconst rfl ?_
  refine r_iadd rfl ?_
  refine r_scr rfl (by omega) (by omega) (by unfold rg; omega) ?_
  have f230 := xs_r (xs ((i + 2)).toNat)
  have K231 := hI
  obtain ⟨hH, ⟨ts, tq, hc⟩, hm⟩ := K231
  refine r_call rfl rfl rfl (t_rs_leads__q hH ((xs ((i + 1)).toNat).toInt) ((xs ((i + 2)).toNat).toInt) ⟨by omega, by omega⟩ ⟨by omega, by omega⟩ 97) ?_
  rintro _ _ ⟨rfl, z232, rfl, g233, p234⟩
  show LWK _ _ _ _ _ [iv z232] _
  refine r_aload_n rfl rfl ?_
  refine r_aload_n rfl rfl ?_
  refine r_iload_n rfl rfl ?_
  refine r_iconst rfl ?_
  refine r_iadd rfl ?_
  refine r_scr rfl (by omega) (by omega) (by unfold rg; omega) ?_
  have f235 := xs_r (xs ((i + 1)).toNat)
  refine r_aload_n rfl rfl ?_
  refine r_iload_n rfl rfl ?_
  refine r_iconst rfl ?_
  refine r_iadd rfl ?_
  refine r_scr rfl (by omega) (by omega) (by unfold rg; omega) ?_
  have f236 := xs_r (xs ((i + 2)).toNat)
  have K237 := hI
  obtain ⟨hH, ⟨ts, tq, hc⟩, hm⟩ := K237
  refine r_call rfl rfl rfl (t_mo_leads__q hH ((xs ((i + 1)).toNat).toInt) ((xs ((i + 2)).toNat).toInt) ⟨by omega, by omega⟩ ⟨by omega, by omega⟩ 98) ?_
  rintro _ _ ⟨rfl, z238, rfl, g239, p240⟩
  have s241 : z232 = z238 := leads_same hE.2.1.1.1 p234 p240
  show LWK _ _ _ _ _ [iv z238, iv z232] _
  refine r_icmp_eq rfl rfl (by unfold rg; omega) (by unfold rg; omega) (fun w242 => ?_) (fun w243 => absurd (by omega) w243)
  refine r_iinc rfl rfl rfl rfl ?_
  refine r_goto rfl rfl ?_
  exact LWK_weak (ih _ (by omega) (i + 4) S hI (by omega) hE (by omega) (by omega) rfl) (And.intro rfl (And.intro rfl (And.intro rfl (And.intro rfl True.intro))))
set_option maxRecDepth 100000 in
set_option maxHeartbeats 4000000 in
theorem case_12 {sl : Nat} {xs : Nat → Int32} (hsl : sl ≤ 2048) (i : Int) (S : sS) (hI : INV S) (hq : Xi S 0 10 = Xi S 904 1) (hE : RLL S) (h0 : 0 ≤ i) (h1 : i ≤ 2100) (hi4 : i + 4 ≤ sl) (ih : ∀ m, m < (3000 - i).toNat → ∀ (i : Int) (S : sS), INV S → Xi S 0 10 = Xi S 904 1 → RLL S → 0 ≤ i → i ≤ 2100 → m = (3000 - i).toNat → LWK sl xs 100 18 [(0, .ref SCR), (1, .ref 0), (2, .ref 904), (3, iv i)] [] S) : LWK sl xs 100 500 [(0, .ref SCR), (1, .ref 0), (2, .ref 904), (3, iv i)] [] S := by
  refine r_aload_n rfl rfl ?_
  refine r_aload_n rfl rfl ?_
  refine r_iload_n rfl rfl ?_
  refine r_iconst rfl ?_
  refine r_iadd rfl ?_
  refine r_scr rfl (by omega) (by omega) (by unfold rg; omega) ?_
  have f244 := xs_r (xs ((i + 1)).toNat)
  refine r_aload_n rfl rfl ?_
  refine r_iload_n rfl rfl ?_
  refine r_iconst rfl ?_
  refine r_iadd rfl ?_
  refine r_scr rfl (by omega) (by omega) (by unfold rg; omega) ?_
  have f245 := xs_r (xs ((i + 2)).toNat)
  refine r_aload_n rfl rfl ?_
  refine r_iload_n rfl rfl ?_
  refine r_iconst rfl ?_
  refine r_iadd rfl ?_
  refine r_scr rfl (by omega) (by omega) (by unfold rg; omega) ?_
  have f246 := xs_r (xs ((i + 3)).toNat)
  have K247 := hI
  obtain ⟨hH, ⟨ts, tq, hc⟩, hm⟩ := K247
  refine r_call rfl rfl rfl (t_rs_related__q hH ((xs ((i + 1)).toNat).toInt) ((xs ((i + 2)).toNat).toInt) ((xs ((i + 3)).toNat).toInt) ⟨by omega, by omega⟩ ⟨by omega, by omega⟩ ⟨by omega, by omega⟩ 97) ?_
  rintro _ _ ⟨rfl, z248, rfl, g249, p250⟩
  show LWK _ _ _ _ _ [iv z248] _
  refine r_aload_n rfl rfl ?_
  refine r_aload_n rfl rfl ?_
  refine r_iload_n rfl rfl ?_
  refine r_iconst rfl ?_
  refine r_iadd rfl ?_
  refine r_scr rfl (by omega) (by omega) (by unfold rg; omega) ?_
  have f251 := xs_r (xs ((i + 1)).toNat)
  refine r_aload_n rfl rfl ?_
  refine r_iload_n rfl rfl ?_
  refine r_iconst rfl ?_
  refine r_iadd rfl ?_
  refine r_scr rfl (by omega) (by omega) (by unfold rg; omega) ?_
  have f252 := xs_r (xs ((i + 2)).toNat)
  refine r_aload_n rfl rfl ?_
  refine r_iload_n rfl rfl ?_
  refine r_iconst rfl ?_
  refine r_iadd rfl ?_
  refine r_scr rfl (by omega) (by omega) (by unfold rg; omega) ?_
  have f253 := xs_r (xs ((i + 3)).toNat)
  have K254 := hI
  obtain ⟨hH, ⟨ts, tq, hc⟩, hm⟩ := K254
  refine r_call rfl rfl rfl (t_mo_related__q hH ((xs ((i + 1)).toNat).toInt) ((xs ((i + 2)).toNat).toInt) ((xs ((i + 3)).toNat).toInt) ⟨by omega, by omega⟩ ⟨by omega, by omega⟩ ⟨by omega, by omega⟩ 98) ?_
  rintro _ _ ⟨rfl, z255, rfl, g256, p257⟩
  have s258 : z248 = z255 := related_same hE.2.1.1.1 (by omega) (by omega) p250 p257
  show LWK _ _ _ _ _ [iv z255, iv z248] _
  refine r_icmp_eq rfl rfl (by unfold rg; omega) (by unfold rg; omega) (fun w259 => ?_) (fun w260 => absurd (by omega) w260)
  refine r_iinc rfl rfl rfl rfl ?_
  refine r_goto rfl rfl ?_
  exact LWK_weak (ih _ (by omega) (i + 4) S hI (by omega) hE (by omega) (by omega) rfl) (And.intro rfl (And.intro rfl (And.intro rfl (And.intro rfl True.intro))))
set_option maxRecDepth 100000 in
set_option maxHeartbeats 4000000 in
theorem case_13 {sl : Nat} {xs : Nat → Int32} (hsl : sl ≤ 2048) (i : Int) (S : sS) (hI : INV S) (hq : Xi S 0 10 = Xi S 904 1) (hE : RLL S) (h0 : 0 ≤ i) (h1 : i ≤ 2100) (hi4 : i + 4 ≤ sl) (ih : ∀ m, m < (3000 - i).toNat → ∀ (i : Int) (S : sS), INV S → Xi S 0 10 = Xi S 904 1 → RLL S → 0 ≤ i → i ≤ 2100 → m = (3000 - i).toNat → LWK sl xs 100 18 [(0, .ref SCR), (1, .ref 0), (2, .ref 904), (3, iv i)] [] S) : LWK sl xs 100 543 [(0, .ref SCR), (1, .ref 0), (2, .ref 904), (3, iv i)] [] S := by
  refine r_aload_n rfl rfl ?_
  refine r_aload_n rfl rfl ?_
  refine r_iload_n rfl rfl ?_
  refine r_iconst rfl ?_
  refine r_iadd rfl ?_
  refine r_scr rfl (by omega) (by omega) (by unfold rg; omega) ?_
  have f261 := xs_r (xs ((i + 1)).toNat)
  refine r_aload_n rfl rfl ?_
  refine r_iload_n rfl rfl ?_
  refine r_iconst rfl ?_
  refine r_iadd rfl ?_
  refine r_scr rfl (by omega) (by omega) (by unfold rg; omega) ?_
  have f262 := xs_r (xs ((i + 2)).toNat)
  have K263 := hI
  obtain ⟨hH, ⟨ts, tq, hc⟩, hm⟩ := K263
  refine r_call rfl rfl rfl (t_rs_rule__q hH ((xs ((i + 1)).toNat).toInt) ((xs ((i + 2)).toNat).toInt) ⟨by omega, by omega⟩ ⟨by omega, by omega⟩ 98) ?_
  rintro _ _ ⟨rfl, z264, rfl, g265, p266⟩
  show LWK _ _ _ _ _ [iv z264] _
  refine r_aload_n rfl rfl ?_
  refine r_aload_n rfl rfl ?_
  refine r_iload_n rfl rfl ?_
  refine r_iconst rfl ?_
  refine r_iadd rfl ?_
  refine r_scr rfl (by omega) (by omega) (by unfold rg; omega) ?_
  have f267 := xs_r (xs ((i + 1)).toNat)
  refine r_aload_n rfl rfl ?_
  refine r_iload_n rfl rfl ?_
  refine r_iconst rfl ?_
  refine r_iadd rfl ?_
  refine r_scr rfl (by omega) (by omega) (by unfold rg; omega) ?_
  have f268 := xs_r (xs ((i + 2)).toNat)
  have K269 := hI
  obtain ⟨hH, ⟨ts, tq, hc⟩, hm⟩ := K269
  refine r_call rfl rfl rfl (t_mo_rule_2__q hH ((xs ((i + 1)).toNat).toInt) ((xs ((i + 2)).toNat).toInt) ⟨by omega, by omega⟩ ⟨by omega, by omega⟩ hm.1.2.2.2.2.1 96) ?_
  rintro _ _ ⟨rfl, z270, rfl, g271, p272⟩
  have s273 : z264 = z270 := rule_same hE.2.1.1 hI.2.2.1.2.2.2.2.1 hE.2.1.2.2.2.o.1 p266 p272
  show LWK _ _ _ _ _ [iv z270, iv z264] _
  refine r_icmp_eq rfl rfl (by unfold rg; omega) (by unfold rg; omega) (fun w274 => ?_) (fun w275 => absurd (by omega) w275)
  refine r_iinc rfl rfl rfl rfl ?_
  refine r_goto rfl rfl ?_
  exact LWK_weak (ih _ (by omega) (i + 4) S hI (by omega) hE (by omega) (by omega) rfl) (And.intro rfl (And.intro rfl (And.intro rfl (And.intro rfl True.intro))))
set_option maxRecDepth 100000 in
set_option maxHeartbeats 4000000 in
theorem case_14 {sl : Nat} {xs : Nat → Int32} (hsl : sl ≤ 2048) (i : Int) (S : sS) (hI : INV S) (hq : Xi S 0 10 = Xi S 904 1) (hE : RLL S) (h0 : 0 ≤ i) (h1 : i ≤ 2100) (hi4 : i + 4 ≤ sl) (ih : ∀ m, m < (3000 - i).toNat → ∀ (i : Int) (S : sS), INV S → Xi S 0 10 = Xi S 904 1 → RLL S → 0 ≤ i → i ≤ 2100 → m = (3000 - i).toNat → LWK sl xs 100 18 [(0, .ref SCR), (1, .ref 0), (2, .ref 904), (3, iv i)] [] S) : LWK sl xs 100 576 [(0, .ref SCR), (1, .ref 0), (2, .ref 904), (3, iv i)] [] S := by
  refine r_aload_n rfl rfl ?_
  refine r_aload_n rfl rfl ?_
  refine r_iload_n rfl rfl ?_
  refine r_iconst rfl ?_
  refine r_iadd rfl ?_
  refine r_scr rfl (by omega) (by omega) (by unfold rg; omega) ?_
  have f276 := xs_r (xs ((i + 1)).toNat)
  refine r_aload_n rfl rfl ?_
  refine r_iload_n rfl rfl ?_
  refine r_iconst rfl ?_
  refine r_iadd rfl ?_
  refine r_scr rfl (by omega) (by omega) (by unfold rg; omega) ?_
  have f277 := xs_r (xs ((i + 2)).toNat)
  have K278 := hI
  obtain ⟨hH, ⟨ts, tq, hc⟩, hm⟩ := K278
  refine r_call rfl rfl rfl (t_rs_act__q hH ((xs ((i + 1)).toNat).toInt) ((xs ((i + 2)).toNat).toInt) ⟨by omega, by omega⟩ ⟨by omega, by omega⟩ hc.2.1.2.1 hc.2.1.2.2.1 hc.2.1.2.2.2.1 hc.2.2 hc.2.1.2.2.2.2.2.1 (cw_of hE.2.1.1.1.1.1) 42) ?_
  intro T281r T281 q282
  have q2T281 := q282
  replace q282 := dq_rs_act q282
  have J283 := cl_rs_act hI q282
  obtain ⟨hHT281, fFT281, z279, rfl, g280, p284⟩ := q282
  obtain ⟨_, gFT281, z287, e289, g288, p285, p286⟩ := q2T281
  replace e289 := iv_i e289 (by unfold rg; omega) (by unfold rg; omega)
  have e290 : Xi T281 0 10 = Xi S 0 10 := fFT281.x _ _ rfl
  have e291 := J283.2
  replace J283 := J283.1
  show LWK _ _ _ _ _ [iv z279] _
  refine r_aload_n rfl rfl ?_
  refine r_aload_n rfl rfl ?_
  refine r_iload_n rfl rfl ?_
  refine r_iconst rfl ?_
  refine r_iadd rfl ?_
  refine r_scr rfl (by omega) (by omega) (by unfold rg; omega) ?_
  have f292 := xs_r (xs ((i + 1)).toNat)
  refine r_aload_n rfl rfl ?_
  refine r_iload_n rfl rfl ?_
  refine r_iconst rfl ?_
  refine r_iadd rfl ?_
  refine r_scr rfl (by omega) (by omega) (by unfold rg; omega) ?_
  have f293 := xs_r (xs ((i + 2)).toNat)
  have K294 := J283
  obtain ⟨hH, ⟨ts, tq, hc⟩, hm⟩ := K294
  have nw_ : NMWD T281 := NMWD_FR gFT281 rfl hE.2.1.2.2.2.o.2.2.1
  have dr_ : DR0 T281 := (gFT281.x 904 157 rfl).trans hE.2.1.2.2.1
  refine r_call rfl rfl rfl (t_mo_act__s hH ((xs ((i + 1)).toNat).toInt) ((xs ((i + 2)).toNat).toInt) ⟨by omega, by omega⟩ ⟨by omega, by omega⟩ hm.1.1 hm.1.2.2.2.2.2.2.2.2.2.1.2.1 hm.1.2.2.2.2.2.2.2.2.2.1.1 hm.1.2.2.2.2.1 hm.1.2.2.1 hm.1.2.1 hm.1.2.2.2.2.2.2.2.2.2.2.1 nw_ dr_ 43) ?_
  intro T297r T297 q298
  have q2T297 := q298
  replace q298 := dq_mo_act q298
  have J299 := lm_mo_act J283 q298
  obtain ⟨hHT297, fFT297, z295, rfl, g296, p300, p301⟩ := q298
  obtain ⟨_, gFT297, z305, e307, g306, p302, p303, p304⟩ := q2T297
  replace e307 := iv_i e307 (by unfold rg; omega) (by unfold rg; omega)
  have e308 : Xi T297 904 1 = Xi T281 904 1 := fFT297.x _ _ rfl
  have e309 := J299.2
  replace J299 := J299.1
  have ⟨s311, E310⟩ := act_l hI hE gFT281 gFT297 p286 p304
  show LWK _ _ _ _ _ [iv z295, iv z279] _
  refine r_icmp_eq rfl rfl (by unfold rg; omega) (by unfold rg; omega) (fun w312 => ?_) (fun w313 => absurd (by omega) w313)
  refine r_iinc rfl rfl rfl rfl ?_
  refine r_goto rfl rfl ?_
  exact LWK_weak (ih _ (by omega) (i + 4) T297 J299 (by omega) E310 (by omega) (by omega) rfl) (And.intro rfl (And.intro rfl (And.intro rfl (And.intro rfl True.intro))))
set_option maxRecDepth 100000 in
set_option maxHeartbeats 4000000 in
theorem case_15 {sl : Nat} {xs : Nat → Int32} (hsl : sl ≤ 2048) (i : Int) (S : sS) (hI : INV S) (hq : Xi S 0 10 = Xi S 904 1) (hE : RLL S) (h0 : 0 ≤ i) (h1 : i ≤ 2100) (hi4 : i + 4 ≤ sl) (ih : ∀ m, m < (3000 - i).toNat → ∀ (i : Int) (S : sS), INV S → Xi S 0 10 = Xi S 904 1 → RLL S → 0 ≤ i → i ≤ 2100 → m = (3000 - i).toNat → LWK sl xs 100 18 [(0, .ref SCR), (1, .ref 0), (2, .ref 904), (3, iv i)] [] S) : LWK sl xs 100 609 [(0, .ref SCR), (1, .ref 0), (2, .ref 904), (3, iv i)] [] S := by
  refine r_aload_n rfl rfl ?_
  have K314 := hI
  obtain ⟨hH, ⟨ts, tq, hc⟩, hm⟩ := K314
  refine r_call rfl rfl rfl (t_rs_command__q hH ts hc.2.1.2.1 hc.2.1.2.2.1 hc.2.1.2.2.2.1 hc.2.2 hc.2.1.2.2.2.2.2.1 hc.2.1.1 hc.2.1.2.2.2.2.1 (cw_of hE.2.1.1.1.1.1) hc.1.1 hc.1.2.2.1 (cpq_l hI hE) 42) ?_
  intro T317r T317 q318
  have q2T317 := q318
  replace q318 := dq_rs_command__2 q318
  have J319 := cl_rs_command__2 hI q318
  obtain ⟨hHT317, fFT317, z315, rfl, g316, p320, p321⟩ := q318
  obtain ⟨_, gFT317, z325, e327, g326, p322, p323, p324⟩ := q2T317
  replace e327 := iv_i e327 (by unfold rg; omega) (by unfold rg; omega)
  have e328 := J319.2
  replace J319 := J319.1
  have h8_ := hc.1.1
  have tp_ := hc.1.2.2.1
  have hc_ := hc
  show LWK _ _ _ _ _ [iv z315] _
  refine r_aload_n rfl rfl ?_
  have K329 := J319
  obtain ⟨hH, ⟨ts, tq, hc⟩, hm⟩ := K329
  have nw_ : NMWD T317 := NMWD_FR gFT317 rfl hE.2.1.2.2.2.o.2.2.1
  have dr_ : DR0 T317 := (gFT317.x 904 157 rfl).trans hE.2.1.2.2.1
  refine r_call rfl rfl rfl (t_mo_command__q hH hm.1.1 hm.1.2.2.2.2.2.2.2.2.2.1.2.1 hm.1.2.2.2.2.2.2.2.2.2.1.1 hm.1.2.2.2.2.1 hm.1.2.2.1 hm.1.2.1 hm.1.2.2.2.2.2.2.2.2.2.2.1 nw_ dr_ (fun c _ => hH.c 947 c) 42) ?_
  intro T332r T332 q333
  have q2T332 := q333
  replace q333 := dq_mo_command__2 q333
  have J334 := lm_mo_command__2 J319 q333
  obtain ⟨hHT332, fFT332, z330, rfl, g331, p335, p336, p337⟩ := q333
  obtain ⟨_, gFT332, z342, e344, g343, p338, p339, p340, p341⟩ := q2T332
  replace e344 := iv_i e344 (by unfold rg; omega) (by unfold rg; omega)
  have e345 := J334.2
  replace J334 := J334.1
  have ⟨s347, E346⟩ := command_l hI hq h8_ hE gFT317 gFT332 p324 p341 (by omega)
  show LWK _ _ _ _ _ [iv z330, iv z315] _
  refine r_icmp_eq rfl rfl (by unfold rg; omega) (by unfold rg; omega) (fun w348 => ?_) (fun w349 => absurd (by omega) w349)
  refine r_iinc rfl rfl rfl rfl ?_
  refine r_goto rfl rfl ?_
  exact LWK_weak (ih _ (by omega) (i + 4) T332 J334 (by omega) E346 (by omega) (by omega) rfl) (And.intro rfl (And.intro rfl (And.intro rfl (And.intro rfl True.intro))))
set_option maxRecDepth 100000 in
set_option maxHeartbeats 4000000 in
theorem case_16 {sl : Nat} {xs : Nat → Int32} (hsl : sl ≤ 2048) (i : Int) (S : sS) (hI : INV S) (hq : Xi S 0 10 = Xi S 904 1) (hE : RLL S) (h0 : 0 ≤ i) (h1 : i ≤ 2100) (hi4 : i + 4 ≤ sl) (ih : ∀ m, m < (3000 - i).toNat → ∀ (i : Int) (S : sS), INV S → Xi S 0 10 = Xi S 904 1 → RLL S → 0 ≤ i → i ≤ 2100 → m = (3000 - i).toNat → LWK sl xs 100 18 [(0, .ref SCR), (1, .ref 0), (2, .ref 904), (3, iv i)] [] S) : LWK sl xs 100 622 [(0, .ref SCR), (1, .ref 0), (2, .ref 904), (3, iv i)] [] S := by
  refine r_aload_n rfl rfl ?_
  have K350 := hI
  obtain ⟨hH, ⟨ts, tq, hc⟩, hm⟩ := K350
  refine r_call rfl rfl rfl (t_rs_outs__q hH 99) ?_
  rintro _ _ ⟨rfl, z351, rfl, g352, p353⟩
  show LWK _ _ _ _ _ [iv z351] _
  refine r_aload_n rfl rfl ?_
  have K354 := hI
  obtain ⟨hH, ⟨ts, tq, hc⟩, hm⟩ := K354
  refine r_call rfl rfl rfl (t_mo_outs__q hH 99) ?_
  rintro _ _ ⟨rfl, z355, rfl, g356, p357⟩
  have s358 : z351 = z355 := outs_sm hE.2.1 p353 p357
  show LWK _ _ _ _ _ [iv z355, iv z351] _
  refine r_icmp_eq rfl rfl (by unfold rg; omega) (by unfold rg; omega) (fun w359 => ?_) (fun w360 => absurd (by omega) w360)
  refine r_iinc rfl rfl rfl rfl ?_
  refine r_goto rfl rfl ?_
  exact LWK_weak (ih _ (by omega) (i + 4) S hI (by omega) hE (by omega) (by omega) rfl) (And.intro rfl (And.intro rfl (And.intro rfl (And.intro rfl True.intro))))
set_option maxRecDepth 100000 in
set_option maxHeartbeats 4000000 in
theorem case_17 {sl : Nat} {xs : Nat → Int32} (hsl : sl ≤ 2048) (i : Int) (S : sS) (hI : INV S) (hq : Xi S 0 10 = Xi S 904 1) (hE : RLL S) (h0 : 0 ≤ i) (h1 : i ≤ 2100) (hi4 : i + 4 ≤ sl) (ih : ∀ m, m < (3000 - i).toNat → ∀ (i : Int) (S : sS), INV S → Xi S 0 10 = Xi S 904 1 → RLL S → 0 ≤ i → i ≤ 2100 → m = (3000 - i).toNat → LWK sl xs 100 18 [(0, .ref SCR), (1, .ref 0), (2, .ref 904), (3, iv i)] [] S) : LWK sl xs 100 635 [(0, .ref SCR), (1, .ref 0), (2, .ref 904), (3, iv i)] [] S := by
  refine r_aload_n rfl rfl ?_
  refine r_aload_n rfl rfl ?_
  refine r_iload_n rfl rfl ?_
  refine r_iconst rfl ?_
  refine r_iadd rfl ?_
  refine r_scr rfl (by omega) (by omega) (by unfold rg; omega) ?_
  have f361 := xs_r (xs ((i + 1)).toNat)
  have K362 := hI
  obtain ⟨hH, ⟨ts, tq, hc⟩, hm⟩ := K362
  refine r_call rfl rfl rfl (t_rs_out__q hH ((xs ((i + 1)).toNat).toInt) ⟨by omega, by omega⟩ 99) ?_
  rintro _ _ ⟨rfl, z363, rfl, g364, p365⟩
  show LWK _ _ _ _ _ [iv z363] _
  refine r_aload_n rfl rfl ?_
  refine r_aload_n rfl rfl ?_
  refine r_iload_n rfl rfl ?_
  refine r_iconst rfl ?_
  refine r_iadd rfl ?_
  refine r_scr rfl (by omega) (by omega) (by unfold rg; omega) ?_
  have f366 := xs_r (xs ((i + 1)).toNat)
  have K367 := hI
  obtain ⟨hH, ⟨ts, tq, hc⟩, hm⟩ := K367
  refine r_call rfl rfl rfl (t_mo_out__q hH ((xs ((i + 1)).toNat).toInt) ⟨by omega, by omega⟩ 98) ?_
  rintro _ _ ⟨rfl, z368, rfl, g369, p370⟩
  have s371 : z363 = z368 := out_sm hE.2.1 p365 p370
  show LWK _ _ _ _ _ [iv z368, iv z363] _
  refine r_icmp_eq rfl rfl (by unfold rg; omega) (by unfold rg; omega) (fun w372 => ?_) (fun w373 => absurd (by omega) w373)
  refine r_iinc rfl rfl rfl rfl ?_
  refine r_goto rfl rfl ?_
  exact LWK_weak (ih _ (by omega) (i + 4) S hI (by omega) hE (by omega) (by omega) rfl) (And.intro rfl (And.intro rfl (And.intro rfl (And.intro rfl True.intro))))
set_option maxRecDepth 100000 in
set_option maxHeartbeats 4000000 in
theorem case_18 {sl : Nat} {xs : Nat → Int32} (hsl : sl ≤ 2048) (i : Int) (S : sS) (hI : INV S) (hq : Xi S 0 10 = Xi S 904 1) (hE : RLL S) (h0 : 0 ≤ i) (h1 : i ≤ 2100) (hi4 : i + 4 ≤ sl) (ih : ∀ m, m < (3000 - i).toNat → ∀ (i : Int) (S : sS), INV S → Xi S 0 10 = Xi S 904 1 → RLL S → 0 ≤ i → i ≤ 2100 → m = (3000 - i).toNat → LWK sl xs 100 18 [(0, .ref SCR), (1, .ref 0), (2, .ref 904), (3, iv i)] [] S) : LWK sl xs 100 658 [(0, .ref SCR), (1, .ref 0), (2, .ref 904), (3, iv i)] [] S := by
  refine r_aload_n rfl rfl ?_
  have K374 := hI
  obtain ⟨hH, ⟨ts, tq, hc⟩, hm⟩ := K374
  refine r_call rfl rfl rfl (t_rs_clear__q hH 98) ?_
  intro T377r T377 q378
  have q2T377 := q378
  replace q378 := dq_rs_clear q378
  have J379 := cl_rs_clear hI q378
  obtain ⟨hHT377, fFT377, z375, rfl, g376⟩ := q378
  obtain ⟨_, gFT377, z381, e383, g382, p380⟩ := q2T377
  replace e383 := iv_i e383 (by unfold rg; omega) (by unfold rg; omega)
  have e384 : Xi T377 0 10 = Xi S 0 10 := fFT377.x _ _ rfl
  have e385 := J379.2
  replace J379 := J379.1
  show LWK _ _ _ _ _ [iv z375] _
  refine r_aload_n rfl rfl ?_
  have K386 := J379
  obtain ⟨hH, ⟨ts, tq, hc⟩, hm⟩ := K386
  refine r_call rfl rfl rfl (t_mo_clear hH 99) ?_
  intro T389r T389 q390
  have J391 := lm_mo_clear J379 q390
  obtain ⟨hHT389, fFT389, z387, rfl, g388, p392⟩ := q390
  have e393 : Xi T389 904 1 = Xi T377 904 1 := fFT389.x _ _ rfl
  have e394 := J391.2
  replace J391 := J391.1
  have ⟨s396, E395⟩ := clear_l hI hE gFT377 fFT389 p380 p392
  show LWK _ _ _ _ _ [iv z387, iv z375] _
  refine r_icmp_eq rfl rfl (by unfold rg; omega) (by unfold rg; omega) (fun w397 => ?_) (fun w398 => absurd (by omega) w398)
  refine r_iinc rfl rfl rfl rfl ?_
  refine r_goto rfl rfl ?_
  exact LWK_weak (ih _ (by omega) (i + 4) T389 J391 (by omega) E395 (by omega) (by omega) rfl) (And.intro rfl (And.intro rfl (And.intro rfl (And.intro rfl True.intro))))
set_option maxRecDepth 100000 in
set_option maxHeartbeats 4000000 in
theorem law_loop {sl : Nat} {xs : Nat → Int32} (hsl : sl ≤ 2048) : ∀ (n : Nat) (i : Int) (S : sS), INV S → Xi S 0 10 = Xi S 904 1 → RLL S → 0 ≤ i → i ≤ 2100 → n = (3000 - i).toNat → LWK sl xs 100 18 [(0, .ref SCR), (1, .ref 0), (2, .ref 904), (3, iv i)] [] S := by
  intro n
  induction n using Nat.strongRecOn with
  | ind n ih =>
    intro i S hI hq hE h0 h1 hn
    subst hn
    refine r_iload_n rfl rfl ?_
    refine r_aload_n rfl rfl ?_
    refine r_len rfl ?_
    refine r_iconst rfl ?_
    refine r_isub rfl ?_
    refine r_icmp_gt rfl rfl (by unfold rg; omega) (by unfold rg; omega) (fun w1 => ?_) (fun w2 => ?_)
    · refine r_iconst rfl ?_
      exact r_ret rfl
    · refine r_aload_n rfl rfl ?_
      refine r_iload_n rfl rfl ?_
      refine r_scr rfl (by omega) (by omega) (by unfold rg; omega) ?_
      have f3 := xs_r (xs (i).toNat)
      refine r_bipush rfl rfl ?_
      refine r_iandF rfl ?_
      have f4 : 0 ≤ (iandF (xs (i).toNat).toInt 31) ∧ (iandF (xs (i).toNat).toInt 31) ≤ 31 := iandF_le (by omega) (by unfold rg; omega)
      refine r_tsw rfl rfl rfl rfl (by unfold rg; omega) (fun w5 => ?_) (fun ii tt hii w5 => ?_)
      · refine r_iinc rfl rfl rfl rfl ?_
        refine r_goto rfl rfl ?_
        exact LWK_weak (ih _ (by omega) (i + 4) S hI (by omega) hE (by omega) (by omega) rfl) (And.intro rfl (And.intro rfl (And.intro rfl (And.intro rfl True.intro))))
      · match ii, hii with
        | 0, hii =>
          cases hii
          exact case_0 hsl i S hI hq hE h0 h1 (by omega) ih
        | 1, hii =>
          cases hii
          exact case_1 hsl i S hI hq hE h0 h1 (by omega) ih
        | 2, hii =>
          cases hii
          exact case_2 hsl i S hI hq hE h0 h1 (by omega) ih
        | 3, hii =>
          cases hii
          exact case_3 hsl i S hI hq hE h0 h1 (by omega) ih
        | 4, hii =>
          cases hii
          exact case_4 hsl i S hI hq hE h0 h1 (by omega) ih
        | 5, hii =>
          cases hii
          exact case_5 hsl i S hI hq hE h0 h1 (by omega) ih
        | 6, hii =>
          cases hii
          exact case_6 hsl i S hI hq hE h0 h1 (by omega) ih
        | 7, hii =>
          cases hii
          exact case_7 hsl i S hI hq hE h0 h1 (by omega) ih
        | 8, hii =>
          cases hii
          exact case_8 hsl i S hI hq hE h0 h1 (by omega) ih
        | 9, hii =>
          cases hii
          exact case_9 hsl i S hI hq hE h0 h1 (by omega) ih
        | 10, hii =>
          cases hii
          exact case_10 hsl i S hI hq hE h0 h1 (by omega) ih
        | 11, hii =>
          cases hii
          exact case_11 hsl i S hI hq hE h0 h1 (by omega) ih
        | 12, hii =>
          cases hii
          exact case_12 hsl i S hI hq hE h0 h1 (by omega) ih
        | 13, hii =>
          cases hii
          exact case_13 hsl i S hI hq hE h0 h1 (by omega) ih
        | 14, hii =>
          cases hii
          exact case_14 hsl i S hI hq hE h0 h1 (by omega) ih
        | 15, hii =>
          cases hii
          exact case_15 hsl i S hI hq hE h0 h1 (by omega) ih
        | 16, hii =>
          cases hii
          exact case_16 hsl i S hI hq hE h0 h1 (by omega) ih
        | 17, hii =>
          cases hii
          exact case_17 hsl i S hI hq hE h0 h1 (by omega) ih
        | 18, hii =>
          cases hii
          exact case_18 hsl i S hI hq hE h0 h1 (by omega) ih
        | n + 19, hii => exact absurd hii (by simp)

