/-! String.checkIndex, by hand -/
theorem d_jp_checkIndex_0 : decode b_jp_checkIndex 0 = .ok (.iload_n 0, 1) := by decide +kernel
theorem d_jp_checkIndex_1 : decode b_jp_checkIndex 1 = .ok (.ifCond .lt 8, 3) := by decide +kernel
theorem d_jp_checkIndex_4 : decode b_jp_checkIndex 4 = .ok (.iload_n 0, 1) := by decide +kernel
theorem d_jp_checkIndex_5 : decode b_jp_checkIndex 5 = .ok (.iload_n 1, 1) := by decide +kernel
theorem d_jp_checkIndex_6 : decode b_jp_checkIndex 6 = .ok (.if_icmp .lt 10, 3) := by decide +kernel
theorem d_jp_checkIndex_9 : decode b_jp_checkIndex 9 = .ok (.aload_n 2, 1) := by decide +kernel
theorem d_jp_checkIndex_10 : decode b_jp_checkIndex 10 = .ok (.iload_n 0, 1) := by decide +kernel
theorem d_jp_checkIndex_11 : decode b_jp_checkIndex 11 = .ok (.iload_n 1, 1) := by decide +kernel
theorem d_jp_checkIndex_12 : decode b_jp_checkIndex 12 = .ok (.invokestatic 95, 3) := by decide +kernel
theorem d_jp_checkIndex_15 : decode b_jp_checkIndex 15 = .ok (.athrow, 1) := by decide +kernel
theorem d_jp_checkIndex_16 : decode b_jp_checkIndex 16 = .ok (.iload_n 0, 1) := by decide +kernel
theorem d_jp_checkIndex_17 : decode b_jp_checkIndex 17 = .ok (.ireturn, 1) := by decide +kernel
theorem d_js_checkIndex_0 : decode b_js_checkIndex 0 = .ok (.iload_n 0, 1) := by decide +kernel
theorem d_js_checkIndex_1 : decode b_js_checkIndex 1 = .ok (.iload_n 1, 1) := by decide +kernel
theorem d_js_checkIndex_2 : decode b_js_checkIndex 2 = .ok (.getstatic 1053, 3) := by decide +kernel
theorem d_js_checkIndex_5 : decode b_js_checkIndex 5 = .ok (.invokestatic 1059, 3) := by decide +kernel
theorem d_js_checkIndex_8 : decode b_js_checkIndex 8 = .ok (.pop, 1) := by decide +kernel
theorem d_js_checkIndex_9 : decode b_js_checkIndex 9 = .ok (.return_, 1) := by decide +kernel
section JD
variable {l : Launch} {D : va_G} {lay : Nat → Nat × Nat} {nc : Nat} {ad ca : Nat → Nat} {S : sS}
theorem c_jp_checkIndex {x n : Int32} {v : Value} {d : Nat} (hv : v.category = 1) (h0 : ¬ x < 0) (h1 : x < n) : sMR l D lay nc ad ca y_jp_checkIndex b_jp_checkIndex 3 (some .int) d [.int x, .int n, v] S (some (.int x)) S := by
  refine sMR_of (by decide) (by simp [lg_sl, hv, show ∀ z : Int32, (Value.int z).category = 1 from fun _ => rfl]) (fun p e s m below meth c ls G B hr hlocks hl => ?_)
  have q0 : ls[0]? = some (.val (.int x)) := hl.2.2 (0, .int x) List.mem_cons_self
  have q1 : ls[1]? = some (.val (.int n)) := hl.2.2 (1, .int n) (List.mem_cons_of_mem _ List.mem_cons_self)
  refine lv_iload_n G.1 G.2.1 d_jp_checkIndex_0 rfl q0 ?_
  refine lv_if_lt (tgt := 9) G.1 G.2.1 d_jp_checkIndex_1 (by decide) (fun z => absurd z h0) (fun _ => ?_)
  refine lv_iload_n G.1 G.2.1 d_jp_checkIndex_4 rfl q0 ?_
  refine lv_iload_n G.1 G.2.1 d_jp_checkIndex_5 rfl q1 ?_
  refine lv_icmp_lt (tgt := 16) G.1 G.2.1 d_jp_checkIndex_6 (by decide) (fun _ => ?_) (fun z => absurd h1 z)
  refine lv_iload_n G.1 G.2.1 d_jp_checkIndex_16 rfl q0 ?_
  exact W.iret (v := x) G.1 G.2.1 hr (fun t ht hW => ⟨⟨rfl, by rw [ht]; exact B.2.1, va_K.moved hW.alike B.1, B.2.2.1⟩, B.2.2.2.1.F ht⟩) B.2.2.2.1.2.2 d_jp_checkIndex_17 hlocks
theorem c_js_checkIndex {x n : Int32} {d : Nat} (h0 : ¬ x < 0) (h1 : x < n) : sMR l D lay nc ad ca y_js_checkIndex b_js_checkIndex 2 none (d + 1) [.int x, .int n] S none S := by
  refine sMR_of (by decide) (by simp [lg_sl, show ∀ z : Int32, (Value.int z).category = 1 from fun _ => rfl]) (fun p e s m below meth c ls G B hr hlocks hl => ?_)
  have q0 : ls[0]? = some (.val (.int x)) := hl.2.2 (0, .int x) List.mem_cons_self
  have q1 : ls[1]? = some (.val (.int n)) := hl.2.2 (1, .int n) (List.mem_cons_of_mem _ List.mem_cons_self)
  obtain ⟨v, hv, hZ⟩ := B.2.2.2.2.2.2.1
  have hvc : v.category = 1 := by rcases hv with rfl | ⟨a, rfl⟩ <;> rfl
  refine lv_iload_n G.1 G.2.1 d_js_checkIndex_0 rfl q0 ?_
  refine lv_iload_n G.1 G.2.1 d_js_checkIndex_1 rfl q1 ?_
  refine va_gets G.1 G.2.1 hZ B.2.2.2.1 G.2.2.2.1 (G.2.2.2.2 _ (ga_2 77 rfl rfl)) (fun _ z => z) d_js_checkIndex_2 ?_
  have cb : CallB (rmD (d + 1)) s _ "java/lang/String" 1059 y_jp_checkIndex b_jp_checkIndex 3 (some .int) (Cond.code y_jp_checkIndex b_jp_checkIndex 3 (some .int) :: lw_good) (rmD d) 0 0 3 := callB_of 3 G.2.2.2.2 (good_into (ga_2 81 rfl rfl)) rfl rfl rfl (G.2.2.2.2 _ (ga_1 9 rfl rfl)) (G.2.2.2.2 _ (ga_2 79 rfl rfl)) ⟨by decide, by decide, by decide +kernel⟩ ⟨Nat.le_refl _, by show 8 + (3 + 11) + 40 * d ≤ 40 * (d + 1); omega⟩
  refine r_back (rest := []) B (va_runS (As := [.int x, .int n, v]) (rest := []) G (c_jp_checkIndex hvc h0 h1 s.heap.size) ⟨cb, G.2.2.2.2 _ (ga_2 80 rfl rfl)⟩ ⟨sPre_blind, sB_pre B⟩ rfl rfl hl.1 rfl (lv_room (Nat.zero_le _)) d_js_checkIndex_5 ⟨Nat.le_refl _, Nat.le_refl _⟩) (fun H1 locs1 B1 => ?_)
  refine lv_pop G.1 G.2.1 d_js_checkIndex_8 rfl ?_
  exact W.vret G.1 G.2.1 hr (fun t ht hW => ⟨⟨rfl, by rw [ht]; exact B1.2.1, va_K.moved hW.alike B1.1, B1.2.2.1⟩, B1.2.2.2.1.F ht⟩) B1.2.2.2.1.2.2 d_js_checkIndex_9 hlocks
end JD
