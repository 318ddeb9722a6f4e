section
def md_mo_parted__p : List rec := [(904, 905, 64, 65), (904, 905, 109, 110), (904, 905, 110, 111), (904, 905, 112, 113), (904, 905, 113, 114), (967, 968, 0, 100000), (968, 969, 0, 100000)]
abbrev Q_mo_parted__p (S : sS) (from_ : Int) (to : Int) (kind : Int) (dfd : Int) (m : Int) : pst := fun r S1 => RI S1 ∧ FR md_mo_parted__p S S1 ∧ (r = none ∧ (KPD S S1 from_ to kind m (fRa S kind dfd) (gRa S kind dfd) (cpf (fRa S kind dfd) to (to - from_).toNat)))
set_option maxRecDepth 100000 in
theorem u_mo_parted__p {S : sS} (hH : RI S) (from_ : Int) (to : Int) (kind : Int) (dfd : Int) (m : Int) (hfrom_ : 0 ≤ from_ ∧ from_ ≤ 6000) (hto : 0 ≤ to ∧ to ≤ 6000) (hkind : -1 ≤ kind ∧ kind ≤ 15) (hdfd : 0 ≤ dfd ∧ dfd ≤ 1) (hm : 0 ≤ m ∧ m ≤ 6) (hLS : LSP S) (h15 : 0 ≤ Xi S 904 15) (hLX : LXR S) (hB : ABV S) (hp32 : 0 ≤ Xi S 904 32 ∧ Xi S 904 32 ≤ 12) (hft : from_ ≤ to) (hb : m + (to - from_) ≤ 6) (hb5 : to - from_ ≤ 5) (h109 : 0 ≤ Xi S 904 109 ∧ Xi S 904 109 + cpf (fRa S kind dfd) to (to - from_).toNat ≤ 2147483647) (d : Nat) (hrec : ∀ {S : sS} (_ : RI S) (from_2 : Int) (to2 : Int) (kind2 : Int) (dfd2 : Int) (m2 : Int) (hfrom_ : 0 ≤ from_2 ∧ from_2 ≤ 6000) (hto : 0 ≤ to2 ∧ to2 ≤ 6000) (hkind : -1 ≤ kind2 ∧ kind2 ≤ 15) (hdfd : 0 ≤ dfd2 ∧ dfd2 ≤ 1) (hm : 0 ≤ m2 ∧ m2 ≤ 6) (hLS : LSP S) (h15 : 0 ≤ Xi S 904 15) (hLX : LXR S) (hB : ABV S) (hp32 : 0 ≤ Xi S 904 32 ∧ Xi S 904 32 ≤ 12) (hft : from_2 ≤ to2) (hb : m2 + (to2 - from_2) ≤ 6) (hb5 : to2 - from_2 ≤ 5) (h109 : 0 ≤ Xi S 904 109 ∧ Xi S 904 109 + cpf (fRa S kind2 dfd2) to2 (to2 - from_2).toNat ≤ 2147483647), (to2 - from_2 < to - from_) → Mp lay0 (d + 3) m_mo_parted [.ref 904, iv from_2, iv to2, iv kind2, iv dfd2, iv m2] S (Q_mo_parted__p S from_2 to2 kind2 dfd2 m2)) : Mp lay0 (d + 4) m_mo_parted [.ref 904, iv from_, iv to, iv kind, iv dfd, iv m] S (Q_mo_parted__p S from_ to kind dfd m) := by
  refine Mp_R rfl rfl (fun fu => ?_)
  have hF : FR md_mo_parted__p S S := FR.rf
  have w1 : -2147483648 ≤ Xi S 904 109 ∧ Xi S 904 109 ≤ 2147483647 := Xi_rgI
  have w2 : -2147483648 ≤ Xi S 904 110 ∧ Xi S 904 110 ≤ 2147483647 := Xi_rgI
  have w3 : -2147483648 ≤ Xi S 904 112 ∧ Xi S 904 112 ≤ 2147483647 := Xi_rgI
  have w4 : -2147483648 ≤ Xi S 904 15 ∧ Xi S 904 15 ≤ 2147483647 := Xi_rgI
  have w5 : -2147483648 ≤ Xi S 904 32 ∧ Xi S 904 32 ≤ 2147483647 := Xi_rgI
  have C52 : ∀ (n52 : Nat) (_ : n52 ≤ fu) (T1 : sS) (_ : RI T1) (_ : FR md_mo_parted__p S T1) (v6 : Int), (1 ≤ v6 ∧ v6 ≤ 4) → (from_ < to) → (1 ≤ v6 ∧ v6 ≤ 4) → (Hid (KPD S T1 from_ to kind m (fRa S kind dfd) (gRa S kind dfd) (csm (fRa S kind dfd) to from_ v6))) → Pl n52 lay0 (d + 3) m_mo_parted 52 [(0, .ref 904), (1, iv from_), (2, iv to), (3, iv kind), (4, iv dfd), (5, iv m), (6, iv v6)] [] T1 (Q_mo_parted__p S from_ to kind dfd m) := by
    intro n52
    induction n52 with
    | zero => intros; exact Pl_0
    | succ n52 ih52 =>
      intro hm52 T1 hHT1 hFT1 v6 w6 w7 w8 K52
      have w9 : Xi T1 904 15 = Xi S 904 15 := hFT1.x _ _ rfl
      have w10 : Xi T1 904 16 = Xi S 904 16 := hFT1.x _ _ rfl
      have w11 : Xi T1 904 32 = Xi S 904 32 := hFT1.x _ _ rfl
      have w12 : -2147483648 ≤ Xi T1 904 109 ∧ Xi T1 904 109 ≤ 2147483647 := Xi_rgI
      have w13 : -2147483648 ≤ Xi T1 904 110 ∧ Xi T1 904 110 ≤ 2147483647 := Xi_rgI
      have w14 : -2147483648 ≤ Xi T1 904 112 ∧ Xi T1 904 112 ≤ 2147483647 := Xi_rgI
      have w15 : -2147483648 ≤ Xi T1 904 15 ∧ Xi T1 904 15 ≤ 2147483647 := Xi_rgI
      have w16 : -2147483648 ≤ Xi T1 904 32 ∧ Xi T1 904 32 ≤ 2147483647 := Xi_rgI
      have C88 : ∀ (n88 : Nat) (_ : n88 ≤ n52) (T2 : sS) (_ : RI T2) (_ : FR md_mo_parted__p S T2) (v6 : Int) (v7 : Int) (v8 : Int) (v9 : Int), (1 ≤ v6 ∧ v6 ≤ 4) → (0 ≤ v7 ∧ v7 ≤ 12) → (-2147483648 ≤ v8 ∧ v8 ≤ 2147483647) → (0 ≤ v9 ∧ v9 ≤ 12) → (from_ < to) → (1 ≤ v6 ∧ v6 ≤ 3) → (from_ + v6 ≤ to) → (v7 = (fRa S kind dfd) from_ (from_ + v6)) → (v8 = (gRa S kind dfd) from_ (from_ + v6)) → (0 ≤ v9 ∧ v9 ≤ v7) → (v7 ≤ 12) → (Hid (KPD S T2 from_ to kind m (fRa S kind dfd) (gRa S kind dfd) (csm (fRa S kind dfd) to from_ v6 + v9 * (cpf (fRa S kind dfd) to (to - (from_ + v6)).toNat)))) → (0 ≤ csm (fRa S kind dfd) to from_ v6 + v9 * (cpf (fRa S kind dfd) to (to - (from_ + v6)).toNat)) → Pl n88 lay0 (d + 3) m_mo_parted 88 [(0, .ref 904), (1, iv from_), (2, iv to), (3, iv kind), (4, iv dfd), (5, iv m), (6, iv v6), (7, iv v7), (8, iv v8), (9, iv v9)] [] T2 (Q_mo_parted__p S from_ to kind dfd m) := by
        intro n88
        induction n88 with
        | zero => intros; exact Pl_0
        | succ n88 ih88 =>
          intro hm88 T2 hHT2 hFT2 v6 v7 v8 v9 w17 w18 w19 w20 w21 w22 w23 r88 s88 w24 w25 K88 d88
          have w26 : Xi T2 904 15 = Xi S 904 15 := hFT2.x _ _ rfl
          have w27 : Xi T2 904 16 = Xi S 904 16 := hFT2.x _ _ rfl
          have w28 : Xi T2 904 32 = Xi S 904 32 := hFT2.x _ _ rfl
          have w29 : -2147483648 ≤ Xi T2 904 109 ∧ Xi T2 904 109 ≤ 2147483647 := Xi_rgI
          have w30 : -2147483648 ≤ Xi T2 904 110 ∧ Xi T2 904 110 ≤ 2147483647 := Xi_rgI
          have w31 : -2147483648 ≤ Xi T2 904 112 ∧ Xi T2 904 112 ≤ 2147483647 := Xi_rgI
          have w32 : -2147483648 ≤ Xi T2 904 15 ∧ Xi T2 904 15 ≤ 2147483647 := Xi_rgI
          have w33 : -2147483648 ≤ Xi T2 904 32 ∧ Xi T2 904 32 ≤ 2147483647 := Xi_rgI
          refine ys_iload rfl rfl ?_
          refine y_iload rfl rfl ?_
          refine y_icmp_ge rfl rfl (by unfold rg; omega) (by unfold rg; omega) (fun w34 => ?_) (fun w35 => ?_)
          · refine y_iinc rfl rfl rfl rfl ?_
            have J126 : Hid (KPD S T2 from_ to kind m (fRa S kind dfd) (gRa S kind dfd) (csm (fRa S kind dfd) to from_ (v6 + 1))) := by rw [csm_s (by omega) (by omega), Int.mul_comm, ← r88, ← show v9 = v7 by omega]; exact K88.o
            refine y_goto rfl rfl ?_
            exact Pl_weak (ih52 (by omega) T2 hHT2 hFT2 ((v6 + 1)) (by omega) (by omega) (by omega) (by first | exact J126 | (rw [csm_0]; exact kpd_0 (fun _ => rfl) (fun _ => rfl) (fun _ => rfl)))) (by omega) (And.intro rfl (And.intro rfl (And.intro rfl (And.intro rfl (And.intro rfl (And.intro rfl (And.intro rfl (True.intro))))))))
          · refine y_aload_n rfl rfl ?_
            refine y_gfr rfl rfl rfl rfl rfl (hHT2.r 904 114 968 rfl) ?_
            refine y_iload rfl rfl ?_
            refine y_iload rfl rfl ?_
            refine y_iastoreP (n := 6) rfl rfl (by unfold rg; omega) (fun w36 w37 => ?_)
            obtain ⟨U3, eU3⟩ : ∃ T : sS, T = uI T2 968 ((m).toNat) (Int32.ofInt v8) := ⟨_, rfl⟩
            rw [← eU3]
            have hHU3 : RI U3 := by rw [eU3]; exact RI_w hHT2
            have hFU3 : FR md_mo_parted__p S U3 := by rw [eU3]; exact FR.wI hFT2 (mdf_i (r := (968, 969, 0, 100000)) (List.mem_of_getElem? (i := 6) rfl) (inR_i (by omega) (by omega) (by omega) (by omega)))
            have w38 : Xi U3 968 ((m).toNat) = v8 := by rw [eU3]; exact Xi_same (by unfold rg; omega)
            have ee103 := eU3
            have B103 : 0 ≤ Xi U3 904 109 ∧ Xi U3 904 109 + cpf (fRa U3 kind dfd) to (to - (from_ + v6)).toNat ≤ 2147483647 := by rw [fRa_am (AMR_FR hFU3 rfl rfl)]; exact kp_b (by rw [eU3, Xi_ne (by omega)]; exact K88.o.1) h109 ⟨by omega, by rw [← r88]; omega⟩ (nn117 hp32) (by omega) (by omega)
            refine y_aload_n rfl rfl ?_
            refine y_iload_n rfl rfl ?_
            refine y_iload rfl rfl ?_
            refine y_iadd rfl ?_
            refine y_iload_n rfl rfl ?_
            refine y_iload_n rfl rfl ?_
            refine y_iload rfl rfl ?_
            refine y_iload rfl rfl ?_
            refine y_iconst rfl ?_
            refine y_iadd rfl ?_
            have w39 : Xi U3 904 109 = Xi T2 904 109 := (show Xi U3 904 109 = Xi T2 904 109 from by rw [eU3]; exact Xi_ne (by omega))
            have w40 : Xi U3 904 110 = Xi T2 904 110 := (show Xi U3 904 110 = Xi T2 904 110 from by rw [eU3]; exact Xi_ne (by omega))
            have w41 : Xi U3 904 112 = Xi T2 904 112 := (show Xi U3 904 112 = Xi T2 904 112 from by rw [eU3]; exact Xi_ne (by omega))
            have w42 : Xi U3 904 15 = Xi T2 904 15 := (show Xi U3 904 15 = Xi T2 904 15 from by rw [eU3]; exact Xi_ne (by omega))
            have w43 : Xi U3 904 32 = Xi T2 904 32 := (show Xi U3 904 32 = Xi T2 904 32 from by rw [eU3]; exact Xi_ne (by omega))
            refine y_callV rfl rfl rfl (hrec hHU3 (from_ + v6) to kind dfd (m + 1) ⟨by omega, by omega⟩ ⟨by omega, by omega⟩ ⟨by omega, by omega⟩ ⟨by omega, by omega⟩ ⟨by omega, by omega⟩ (by first | assumption | exact (LSP_FR hFU3 rfl rfl (by assumption : LSP S))) (by first | assumption | omega) (by first | assumption | exact (LXR_FR hFU3 rfl rfl (by assumption : LXR S))) (by first | assumption | exact (ABV_FR hFU3 rfl (by assumption : ABV S))) (by first | assumption | omega) (by first | assumption | omega) (by first | assumption | omega) (by first | assumption | omega) (B103) (by omega)) ?_
            rintro _ T4 ⟨hHT4, w45, rfl, o117⟩
            have hFT4 : FR md_mo_parted__p S T4 := FR.tr hFU3 w45 rfl
            show Pl _ _ _ _ _ _ [] _ _
            have A117 : Hid (AMR S U3) := AMR_FR hFU3 rfl rfl
            have o117_ : Hid (KPD U3 T4 (from_ + v6) to kind (m + 1) (fRa S kind dfd) (gRa S kind dfd) (cpf (fRa S kind dfd) to (to - (from_ + v6)).toNat)) := by have t := o117; rw [fRa_am A117.o, gRa_am A117.o] at t; exact t
            clear o117
            have K117 : Hid (KPD S T4 from_ to kind m (fRa S kind dfd) (gRa S kind dfd) (csm (fRa S kind dfd) to from_ v6 + (v9 + 1) * (cpf (fRa S kind dfd) to (to - (from_ + v6)).toNat))) := by have t := kpd_s K88.o ee103 o117_.o s88 (by unfold rg; omega) (by omega) h109.1 (c117 hp32) d88 (by omega) (by omega) (fun a b => nxt_v (nn117 hp32) (by omega) (by omega) (csm_l (nn117 hp32) (by omega) (c117 hp32) a) (by rw [← r88]; omega) b); rw [Int.add_mul, Int.one_mul, ← Int.add_assoc]; exact t
            refine y_iinc rfl rfl rfl rfl ?_
            refine y_goto rfl rfl ?_
            have w46 : Xi T4 904 15 = Xi T2 904 15 := (show Xi T4 904 15 = Xi U3 904 15 from w45.x _ _ rfl).trans ((show Xi U3 904 15 = Xi T2 904 15 from by rw [eU3]; exact Xi_ne (by omega)))
            have w47 : Xi T4 904 32 = Xi T2 904 32 := (show Xi T4 904 32 = Xi U3 904 32 from w45.x _ _ rfl).trans ((show Xi U3 904 32 = Xi T2 904 32 from by rw [eU3]; exact Xi_ne (by omega)))
            exact Pl_weak (ih88 (by omega) T4 hHT4 hFT4 (v6) (v7) (v8) ((v9 + 1)) (by omega) (by omega) (by omega) (by omega) (by omega) (by omega) (by omega) (by first | exact r88 | exact r74) (by first | exact s88 | exact s74) (by omega) (by omega) (by first | exact K117 | exact k74) (by first | exact d117 hp32 (by omega) | exact d117 (v := 0) hp32 (by omega))) (by omega) (And.intro rfl (And.intro rfl (And.intro rfl (And.intro rfl (And.intro rfl (And.intro rfl (And.intro rfl (And.intro rfl (And.intro rfl (And.intro rfl (True.intro)))))))))))
      refine ys_iload rfl rfl ?_
      refine y_iconst rfl ?_
      refine y_icmp_gt rfl rfl (by unfold rg; omega) (by unfold rg; omega) (fun w48 => ?_) (fun w49 => ?_)
      · refine y_return rfl rfl ?_
        exact ⟨hHT1, hFT1, rfl, (by first | (have t := K45; exact R45) | (have t := K52; have e := csm_e (f := (fRa S kind dfd)) (z := to) (p := from_) (v := v6) (by omega) (by omega) (by omega); rw [← e]; exact K52.o))⟩
      · refine y_iload_n rfl rfl ?_
        refine y_iload rfl rfl ?_
        refine y_iadd rfl ?_
        refine y_iload_n rfl rfl ?_
        refine y_icmp_gt rfl rfl (by unfold rg; omega) (by unfold rg; omega) (fun w50 => ?_) (fun w51 => ?_)
        · refine y_return rfl rfl ?_
          exact ⟨hHT1, hFT1, rfl, (by first | (have t := K45; exact R45) | (have t := K52; have e := csm_e (f := (fRa S kind dfd)) (z := to) (p := from_) (v := v6) (by omega) (by omega) (by omega); rw [← e]; exact K52.o))⟩
        · refine y_aload_n rfl rfl ?_
          refine y_iload_n rfl rfl ?_
          refine y_iload rfl rfl ?_
          refine y_iload_n rfl rfl ?_
          refine y_iload rfl rfl ?_
          refine y_iconst rfl ?_
          refine y_callV rfl rfl rfl (t_mo_adjective__p hHT1 from_ v6 kind dfd 1 ⟨by omega, by omega⟩ ⟨by omega, by omega⟩ ⟨by omega, by omega⟩ ⟨by omega, by omega⟩ ⟨by omega, by omega⟩ (by first | assumption | exact (LSP_FR hFT1 rfl rfl (by assumption : LSP S))) (by first | assumption | omega) (by first | assumption | exact (LXR_FR hFT1 rfl rfl (by assumption : LXR S))) (by first | assumption | exact (ABV_FR hFT1 rfl (by assumption : ABV S))) (by first | assumption | omega) _) ?_
          rintro _ T5 ⟨hHT5, w53, z52, rfl, w52, f74, g74⟩
          have hFT5 : FR md_mo_parted__p S T5 := FR.tr hFT1 w53 rfl
          show Pl _ _ _ _ _ _ [iv z52] _ _
          have A74 : Hid (AMR S T1) := AMR_FR hFT1 rfl rfl
          have r74 : z52 = (fRa S kind dfd) from_ (from_ + v6) := by have t := f74; rw [adR_am A74.o] at t; rw [t]; unfold fRa; rw [show from_ + v6 - from_ = v6 by omega]
          have s74 : Xi T5 904 113 = (gRa S kind dfd) from_ (from_ + v6) := by have t := g74; rw [acR_am A74.o] at t; rw [t]; unfold gRa; rw [show from_ + v6 - from_ = v6 by omega]
          clear f74 g74
          have F74 := (by assumption : FR md_mo_adjective__p T1 T5)
          have k74 : Hid (KPD S T5 from_ to kind m (fRa S kind dfd) (gRa S kind dfd) (csm (fRa S kind dfd) to from_ v6 + 0 * (cpf (fRa S kind dfd) to (to - (from_ + v6)).toNat))) := by rw [Int.zero_mul, Int.add_zero]; exact kpd_k K52.o ⟨F74.x 904 109 rfl, F74.x 904 110 rfl, F74.x 904 112 rfl⟩ (fun i _ => (F74.cx 968 rfl i).1) (fun j => (F74.cx 967 rfl j).1)
          have b74 := adR_b (S := S) (k := kind) (d := dfd) (a := from_) (b := from_ + v6) hp32
          refine y_istore rfl rfl rfl ?_
          refine y_aload_n rfl rfl ?_
          refine y_gfi rfl rfl rfl rfl rfl ?_
          have w54 : -2147483648 ≤ (Xi T5 904 113) ∧ (Xi T5 904 113) ≤ 2147483647 := Xi_rgI
          refine y_istore rfl rfl rfl ?_
          refine y_iconst rfl ?_
          refine y_istore rfl rfl rfl ?_
          have w55 : Xi T5 904 109 = Xi T1 904 109 := (show Xi T5 904 109 = Xi T1 904 109 from w53.x _ _ rfl)
          have w56 : Xi T5 904 110 = Xi T1 904 110 := (show Xi T5 904 110 = Xi T1 904 110 from w53.x _ _ rfl)
          have w57 : Xi T5 904 112 = Xi T1 904 112 := (show Xi T5 904 112 = Xi T1 904 112 from w53.x _ _ rfl)
          have w58 : Xi T5 904 15 = Xi T1 904 15 := (show Xi T5 904 15 = Xi T1 904 15 from w53.x _ _ rfl)
          have w59 : Xi T5 904 32 = Xi T1 904 32 := (show Xi T5 904 32 = Xi T1 904 32 from w53.x _ _ rfl)
          exact Pl_weak (C88 n52 (by omega) T5 hHT5 hFT5 (v6) (z52) ((Xi T5 904 113)) (0) (by omega) (by omega) (by omega) (by omega) (by omega) (by omega) (by omega) (by first | exact r88 | exact r74) (by first | exact s88 | exact s74) (by omega) (by omega) (by first | exact K117 | exact k74) (by first | exact d117 hp32 (by omega) | exact d117 (v := 0) hp32 (by omega))) (by omega) (And.intro rfl (And.intro rfl (And.intro rfl (And.intro rfl (And.intro rfl (And.intro rfl (And.intro rfl (And.intro rfl (And.intro rfl (And.intro rfl (True.intro)))))))))))
  refine y_iload_n rfl rfl ?_
  refine y_iload_n rfl rfl ?_
  refine y_icmp_ne rfl rfl (by unfold rg; omega) (by unfold rg; omega) (fun w60 => ?_) (fun w61 => ?_)
  · refine y_iconst rfl ?_
    refine y_istore rfl rfl rfl ?_
    exact Pl_weak (C52 fu (by omega) S hH hF (1) (by omega) (by omega) (by omega) (by first | exact J126 | (rw [csm_0]; exact kpd_0 (fun _ => rfl) (fun _ => rfl) (fun _ => rfl)))) (by omega) (And.intro rfl (And.intro rfl (And.intro rfl (And.intro rfl (And.intro rfl (And.intro rfl (And.intro rfl (True.intro))))))))
  · refine y_aload_n rfl rfl ?_
    have b5 : Xi S 904 109 + 1 ≤ 2147483647 := by have t := h109; rw [show (to - from_).toNat = 0 by omega] at t; exact t.2
    refine y_gfi rfl rfl rfl rfl rfl ?_
    refine y_if_ne rfl rfl (by unfold rg; omega) (fun w62 => ?_) (fun w63 => ?_)
    · refine y_aload_n rfl rfl ?_
      refine y_dup rfl rfl ?_
      refine y_gfi rfl rfl rfl rfl rfl ?_
      refine y_iconst rfl ?_
      refine y_iadd rfl ?_
      refine y_pfi rfl rfl rfl rfl ?_
      obtain ⟨U6, eU6⟩ : ∃ T : sS, T = uI S 904 109 (Int32.ofInt ((Xi S 904 109) + 1)) := ⟨_, rfl⟩
      rw [← eU6]
      have hHU6 : RI U6 := by rw [eU6]; exact RI_w hH
      have hFU6 : FR md_mo_parted__p S U6 := by rw [eU6]; exact FR.wI hF (mdf_i (r := (904, 905, 109, 110)) (List.mem_of_getElem? (i := 1) rfl) (inR_i (by omega) (by omega) (by omega) (by omega)))
      have w64 : Xi U6 904 109 = ((Xi S 904 109) + 1) := by rw [eU6]; exact Xi_same (by unfold rg; omega)
      have K45 : True := trivial
      have C45 : cpf (fRa S kind dfd) to (to - from_).toNat = 1 := by rw [show (to - from_).toNat = 0 by omega]; rfl
      have p45 : prs (fRa S kind dfd) (gRa S kind dfd) to 6 from_ = [] := by show (if to ≤ from_ then [] else _) = []; rw [if_pos (by omega)]
      have R45 : KPD S U6 from_ to kind m (fRa S kind dfd) (gRa S kind dfd) (cpf (fRa S kind dfd) to (to - from_).toNat) := by rw [C45]; first | (have t := K35; exact kpd_b ee14 ee20 F35 c35.o eU6 ⟨by omega, by omega⟩ (by omega) (by omega) p45) | exact kpd_n eU6 (by omega) (by omega)
      refine y_return rfl rfl ?_
      have w65 : Xi U6 904 110 = Xi S 904 110 := (show Xi U6 904 110 = Xi S 904 110 from by rw [eU6]; exact Xi_ne (by omega))
      have w66 : Xi U6 904 112 = Xi S 904 112 := (show Xi U6 904 112 = Xi S 904 112 from by rw [eU6]; exact Xi_ne (by omega))
      have w67 : Xi U6 904 15 = Xi S 904 15 := (show Xi U6 904 15 = Xi S 904 15 from by rw [eU6]; exact Xi_ne (by omega))
      have w68 : Xi U6 904 32 = Xi S 904 32 := (show Xi U6 904 32 = Xi S 904 32 from by rw [eU6]; exact Xi_ne (by omega))
      exact ⟨hHU6, hFU6, rfl, (by first | (have t := K45; exact R45) | (have t := K52; have e := csm_e (f := (fRa S kind dfd)) (z := to) (p := from_) (v := v6) (by omega) (by omega) (by omega); rw [← e]; exact K52.o))⟩
    · refine y_aload_n rfl rfl ?_
      refine y_iload_n rfl rfl ?_
      refine y_pfi rfl rfl rfl rfl ?_
      obtain ⟨U7, eU7⟩ : ∃ T : sS, T = uI S 904 110 (Int32.ofInt kind) := ⟨_, rfl⟩
      rw [← eU7]
      have hHU7 : RI U7 := by rw [eU7]; exact RI_w hH
      have hFU7 : FR md_mo_parted__p S U7 := by rw [eU7]; exact FR.wI hF (mdf_i (r := (904, 905, 110, 111)) (List.mem_of_getElem? (i := 2) rfl) (inR_i (by omega) (by omega) (by omega) (by omega)))
      have w69 : Xi U7 904 110 = kind := by rw [eU7]; exact Xi_same (by unfold rg; omega)
      have ee14 := eU7
      refine y_aload_n rfl rfl ?_
      refine y_iload rfl rfl ?_
      refine y_pfi rfl rfl rfl rfl ?_
      obtain ⟨U8, eU8⟩ : ∃ T : sS, T = uI U7 904 112 (Int32.ofInt m) := ⟨_, rfl⟩
      rw [← eU8]
      have hHU8 : RI U8 := by rw [eU8]; exact RI_w hHU7
      have hFU8 : FR md_mo_parted__p S U8 := by rw [eU8]; exact FR.wI hFU7 (mdf_i (r := (904, 905, 112, 113)) (List.mem_of_getElem? (i := 3) rfl) (inR_i (by omega) (by omega) (by omega) (by omega)))
      have w70 : Xi U8 904 112 = m := by rw [eU8]; exact Xi_same (by unfold rg; omega)
      have ee20 := eU8
      refine y_aload_n rfl rfl ?_
      refine y_gfr rfl rfl rfl rfl rfl (hHU8.r 904 114 968 rfl) ?_
      refine y_iconst rfl ?_
      refine y_aload_n rfl rfl ?_
      refine y_gfr rfl rfl rfl rfl rfl (hHU8.r 904 111 967 rfl) ?_
      refine y_iconst rfl ?_
      refine y_bipush rfl rfl ?_
      refine y_acp rfl rfl rfl (acpI (A := 6) (B := 6) rfl rfl (by omega) (by omega) (by omega) (by omega) (by omega) (by omega) (by omega)) ?_
      obtain ⟨T9, eT9⟩ : ∃ T : sS, T = cpI U8 968 967 (0 : Int).toNat (0 : Int).toNat (6 : Int).toNat := ⟨_, rfl⟩
      rw [← eT9]
      have hHT9 : RI T9 := by rw [eT9]; exact RI_cpI hHU8
      have w71 : FR [(967, 968, 0, 100000)] U8 T9 := by rw [eT9]; exact FR_cpI (by omega)
      have hFT9 : FR md_mo_parted__p S T9 := FR.tr hFU8 w71 rfl
      have K35 : True := trivial
      have c35 : Hid (∀ i : Nat, (i : Int) < 6 → Xi T9 967 i = Xi U8 968 i) := cp_i eT9
      have F35 := (by assumption : FR [(967, 968, 0, 100000)] U8 T9)
      refine y_aload_n rfl rfl ?_
      refine y_dup rfl rfl ?_
      refine y_gfi rfl rfl rfl rfl rfl ?_
      have w72 : (Xi T9 904 109) = (Xi S 904 109) := (show Xi T9 904 109 = Xi U8 904 109 from w71.x _ _ rfl).trans ( (show Xi U8 904 109 = Xi U7 904 109 from by rw [eU8]; exact Xi_ne (by omega)).trans ((show Xi U7 904 109 = Xi S 904 109 from by rw [eU7]; exact Xi_ne (by omega))))
      rw [w72]
      refine y_iconst rfl ?_
      refine y_iadd rfl ?_
      refine y_pfi rfl rfl rfl rfl ?_
      obtain ⟨U10, eU10⟩ : ∃ T : sS, T = uI T9 904 109 (Int32.ofInt ((Xi S 904 109) + 1)) := ⟨_, rfl⟩
      rw [← eU10]
      have hHU10 : RI U10 := by rw [eU10]; exact RI_w hHT9
      have hFU10 : FR md_mo_parted__p S U10 := by rw [eU10]; exact FR.wI hFT9 (mdf_i (r := (904, 905, 109, 110)) (List.mem_of_getElem? (i := 1) rfl) (inR_i (by omega) (by omega) (by omega) (by omega)))
      have w73 : Xi U10 904 109 = ((Xi S 904 109) + 1) := by rw [eU10]; exact Xi_same (by unfold rg; omega)
      have K45 : True := trivial
      have C45 : cpf (fRa S kind dfd) to (to - from_).toNat = 1 := by rw [show (to - from_).toNat = 0 by omega]; rfl
      have p45 : prs (fRa S kind dfd) (gRa S kind dfd) to 6 from_ = [] := by show (if to ≤ from_ then [] else _) = []; rw [if_pos (by omega)]
      have R45 : KPD S U10 from_ to kind m (fRa S kind dfd) (gRa S kind dfd) (cpf (fRa S kind dfd) to (to - from_).toNat) := by rw [C45]; first | (have t := K35; exact kpd_b ee14 ee20 F35 c35.o eU10 ⟨by omega, by omega⟩ (by omega) (by omega) p45) | exact kpd_n eU10 (by omega) (by omega)
      refine y_return rfl rfl ?_
      have w74 : Xi U10 904 110 = Xi U7 904 110 := (show Xi U10 904 110 = Xi T9 904 110 from by rw [eU10]; exact Xi_ne (by omega)).trans ( (show Xi T9 904 110 = Xi U8 904 110 from w71.x _ _ rfl).trans ((show Xi U8 904 110 = Xi U7 904 110 from by rw [eU8]; exact Xi_ne (by omega))))
      have w75 : Xi U10 904 112 = Xi U8 904 112 := (show Xi U10 904 112 = Xi T9 904 112 from by rw [eU10]; exact Xi_ne (by omega)).trans ((show Xi T9 904 112 = Xi U8 904 112 from w71.x _ _ rfl))
      have w76 : Xi U10 904 15 = Xi S 904 15 := (show Xi U10 904 15 = Xi T9 904 15 from by rw [eU10]; exact Xi_ne (by omega)).trans ( (show Xi T9 904 15 = Xi U8 904 15 from w71.x _ _ rfl).trans ( (show Xi U8 904 15 = Xi U7 904 15 from by rw [eU8]; exact Xi_ne (by omega)).trans ((show Xi U7 904 15 = Xi S 904 15 from by rw [eU7]; exact Xi_ne (by omega)))))
      have w77 : Xi U10 904 32 = Xi S 904 32 := (show Xi U10 904 32 = Xi T9 904 32 from by rw [eU10]; exact Xi_ne (by omega)).trans ( (show Xi T9 904 32 = Xi U8 904 32 from w71.x _ _ rfl).trans ( (show Xi U8 904 32 = Xi U7 904 32 from by rw [eU8]; exact Xi_ne (by omega)).trans ((show Xi U7 904 32 = Xi S 904 32 from by rw [eU7]; exact Xi_ne (by omega)))))
      exact ⟨hHU10, hFU10, rfl, (by first | (have t := K45; exact R45) | (have t := K52; have e := csm_e (f := (fRa S kind dfd)) (z := to) (p := from_) (v := v6) (by omega) (by omega) (by omega); rw [← e]; exact K52.o))⟩
theorem k_mpp (n : Nat) : ∀ (d : Nat) {S : sS} (_ : RI S) (from_ : Int) (to : Int) (kind : Int) (dfd : Int) (m : Int) (hfrom_ : 0 ≤ from_ ∧ from_ ≤ 6000) (hto : 0 ≤ to ∧ to ≤ 6000) (hkind : -1 ≤ kind ∧ kind ≤ 15) (hdfd : 0 ≤ dfd ∧ dfd ≤ 1) (hm : 0 ≤ m ∧ m ≤ 6) (hLS : LSP S) (h15 : 0 ≤ Xi S 904 15) (hLX : LXR S) (hB : ABV S) (hp32 : 0 ≤ Xi S 904 32 ∧ Xi S 904 32 ≤ 12) (hft : from_ ≤ to) (hb : m + (to - from_) ≤ 6) (hb5 : to - from_ ≤ 5) (h109 : 0 ≤ Xi S 904 109 ∧ Xi S 904 109 + cpf (fRa S kind dfd) to (to - from_).toNat ≤ 2147483647), (to - from_).toNat = n → Mp lay0 (d + n + 4) m_mo_parted [.ref 904, iv from_, iv to, iv kind, iv dfd, iv m] S (Q_mo_parted__p S from_ to kind dfd m) := by
  induction n using Nat.strongRecOn with
  | ind n ih =>
    intro d S hH from_ to kind dfd m hfrom_ hto hkind hdfd hm hLS h15 hLX hB hp32 hft hb hb5 h109 hmeas
    exact u_mo_parted__p hH from_ to kind dfd m hfrom_ hto hkind hdfd hm hLS h15 hLX hB hp32 hft hb hb5 h109 (d + n) (fun {S} hH2 xfrom_ xto xkind xdfd xm xhfrom_ xhto xhkind xhdfd xhm xhLS xh15 xhLX xhB xhp32 xhft xhb xhb5 xh109 hlt => by
      have t := ih (xto - xfrom_).toNat (by omega) (d + n - 1 - (xto - xfrom_).toNat) hH2 xfrom_ xto xkind xdfd xm xhfrom_ xhto xhkind xhdfd xhm xhLS xh15 xhLX xhB xhp32 xhft xhb xhb5 xh109 rfl
      rw [show d + n - 1 - (xto - xfrom_).toNat + (xto - xfrom_).toNat + 4 = d + n + 3 by omega] at t
      exact t)
theorem t_mo_parted__p {S : sS} (hH : RI S) (from_ : Int) (to : Int) (kind : Int) (dfd : Int) (m : Int) (hfrom_ : 0 ≤ from_ ∧ from_ ≤ 6000) (hto : 0 ≤ to ∧ to ≤ 6000) (hkind : -1 ≤ kind ∧ kind ≤ 15) (hdfd : 0 ≤ dfd ∧ dfd ≤ 1) (hm : 0 ≤ m ∧ m ≤ 6) (hLS : LSP S) (h15 : 0 ≤ Xi S 904 15) (hLX : LXR S) (hB : ABV S) (hp32 : 0 ≤ Xi S 904 32 ∧ Xi S 904 32 ≤ 12) (hft : from_ ≤ to) (hb : m + (to - from_) ≤ 6) (hb5 : to - from_ ≤ 5) (h109 : 0 ≤ Xi S 904 109 ∧ Xi S 904 109 + cpf (fRa S kind dfd) to (to - from_).toNat ≤ 2147483647) (d : Nat) : Mp lay0 (d + 9) m_mo_parted [.ref 904, iv from_, iv to, iv kind, iv dfd, iv m] S (Q_mo_parted__p S from_ to kind dfd m) := by
  have t := k_mpp (to - from_).toNat (d + (5 - (to - from_).toNat)) hH from_ to kind dfd m hfrom_ hto hkind hdfd hm hLS h15 hLX hB hp32 hft hb hb5 h109 rfl
  rw [show d + (5 - (to - from_).toNat) + (to - from_).toNat + 4 = d + 9 by omega] at t
  exact t

/-! describe -/
noncomputable def dkR (S : sS) (f n pl m : Int) : Int := msR S (f + n - m) m (if pl = 0 then 0 else 1)
abbrev dokR (S : sS) (f n pl al m : Int) : Prop := dkR S f n pl m ≠ -1 ∧ (al = -1 ∨ blR S (dkR S f n pl m) al = 1)
noncomputable def dcR (S : sS) (f n pl d al m : Int) : Int := if dokR S f n pl al m then cpf (fRa S (dkR S f n pl m) d) (f + n - m) (n - m).toNat else 0
noncomputable def dcT (S : sS) (f n pl d al v : Int) : Int := (if 1 < v ∧ 1 ≤ n then dcR S f n pl d al 1 else 0) + (if 2 < v ∧ 2 ≤ n then dcR S f n pl d al 2 else 0) + (if 3 < v ∧ 3 ≤ n then dcR S f n pl d al 3 else 0)
theorem dcR_nn {S : sS} {f n pl d al m : Int} (h : 0 ≤ Xi S 904 32 ∧ Xi S 904 32 ≤ 12) : 0 ≤ dcR S f n pl d al m := by
  unfold dcR
  split
  · exact c117 h
  · omega
theorem dcT_nn {S : sS} {f n pl d al v : Int} (h : 0 ≤ Xi S 904 32 ∧ Xi S 904 32 ≤ 12) : 0 ≤ dcT S f n pl d al v := by
  unfold dcT
  have q : ∀ (c : Prop) [Decidable c] (m : Int), 0 ≤ (if c then dcR S f n pl d al m else 0) := fun c _ m => by
    split
    · exact dcR_nn h
    · omega
  exact Int.add_nonneg (Int.add_nonneg (q _ _) (q _ _)) (q _ _)
theorem dcT_0 {S : sS} {f n pl d al : Int} : dcT S f n pl d al 1 = 0 := by unfold dcT; rw [if_neg (by omega), if_neg (by omega), if_neg (by omega)]; omega
theorem dcT_s {S : sS} {f n pl d al v : Int} (h1 : 1 ≤ v ∧ v ≤ 3) (h2 : v ≤ n) : dcT S f n pl d al (v + 1) = dcT S f n pl d al v + dcR S f n pl d al v := by
  unfold dcT
  rcases (by omega : v = 1 ∨ v = 2 ∨ v = 3) with q | q | q <;> subst q
  · rw [if_pos (show (1 : Int) < 1 + 1 ∧ 1 ≤ n by omega), if_neg (show ¬ ((2 : Int) < 1 + 1 ∧ 2 ≤ n) by omega), if_neg (show ¬ ((3 : Int) < 1 + 1 ∧ 3 ≤ n) by omega), if_neg (show ¬ ((1 : Int) < 1 ∧ 1 ≤ n) by omega), if_neg (show ¬ ((2 : Int) < 1 ∧ 2 ≤ n) by omega), if_neg (show ¬ ((3 : Int) < 1 ∧ 3 ≤ n) by omega)]
    omega
  · rw [if_pos (show (1 : Int) < 2 + 1 ∧ 1 ≤ n by omega), if_pos (show (2 : Int) < 2 + 1 ∧ 2 ≤ n by omega), if_neg (show ¬ ((3 : Int) < 2 + 1 ∧ 3 ≤ n) by omega), if_pos (show (1 : Int) < 2 ∧ 1 ≤ n by omega), if_neg (show ¬ ((2 : Int) < 2 ∧ 2 ≤ n) by omega), if_neg (show ¬ ((3 : Int) < 2 ∧ 3 ≤ n) by omega)]
    omega
  · rw [if_pos (show (1 : Int) < 3 + 1 ∧ 1 ≤ n by omega), if_pos (show (2 : Int) < 3 + 1 ∧ 2 ≤ n by omega), if_pos (show (3 : Int) < 3 + 1 ∧ 3 ≤ n by omega), if_pos (show (1 : Int) < 3 ∧ 1 ≤ n by omega), if_pos (show (2 : Int) < 3 ∧ 2 ≤ n by omega), if_neg (show ¬ ((3 : Int) < 3 ∧ 3 ≤ n) by omega)]
    omega
theorem dcT_e {S : sS} {f n pl d al v : Int} (h1 : 1 ≤ v) (hv : 3 < v ∨ n < v) : dcT S f n pl d al v = dcT S f n pl d al 4 := by
  unfold dcT
  have c : ∀ i : Int, 1 ≤ i → i ≤ 3 → ((i < v ∧ i ≤ n) ↔ (i < 4 ∧ i ≤ n)) := fun i a b => ⟨fun q => ⟨by omega, q.2⟩, fun q => ⟨by omega, q.2⟩⟩
  simp only [c 1 (by omega) (by omega), c 2 (by omega) (by omega), c 3 (by omega) (by omega)]
/-- the one reading that is kept -/
def KRD (S U : sS) (f n pl d m : Int) : Prop := Xi U 904 110 = dkR S f n pl m ∧ Xi U 904 112 = (prs (fRa S (dkR S f n pl m) d) (gRa S (dkR S f n pl m) d) (f + n - m) 6 f).length ∧ ∀ i : Nat, i < (prs (fRa S (dkR S f n pl m) d) (gRa S (dkR S f n pl m) d) (f + n - m) 6 f).length → Xi U 967 i = (prs (fRa S (dkR S f n pl m) d) (gRa S (dkR S f n pl m) d) (f + n - m) 6 f).getD i 0
def KDS (S U : sS) (f n pl d al v : Int) : Prop :=
  Xi U 904 109 = Xi S 904 109 + dcT S f n pl d al v ∧
  ((Xi S 904 109 ≠ 0 ∨ dcT S f n pl d al v = 0) → Xi U 904 110 = Xi S 904 110 ∧ Xi U 904 112 = Xi S 904 112 ∧ ∀ j, Xi U 967 j = Xi S 967 j) ∧
  (Xi S 904 109 = 0 → 0 < dcT S f n pl d al v → ∃ m : Int, (1 ≤ m ∧ m < v ∧ m ≤ n) ∧ dcT S f n pl d al m = 0 ∧ 0 < dcR S f n pl d al m ∧ KRD S U f n pl d m)
theorem kds_0 {S : sS} {f n pl d al : Int} : KDS S S f n pl d al 1 := ⟨by rw [dcT_0]; omega, fun _ => ⟨rfl, rfl, fun _ => rfl⟩, fun _ q => by rw [dcT_0] at q; omega⟩
theorem kds_n {S U : sS} {f n pl d al v : Int} (h : KDS S U f n pl d al v) (hv : 1 ≤ v ∧ v ≤ 3) (hn : v ≤ n) (q : ¬ dokR S f n pl al v) : KDS S U f n pl d al (v + 1) := by
  have z : dcR S f n pl d al v = 0 := by unfold dcR; rw [if_neg q]
  have e := dcT_s (S := S) (f := f) (pl := pl) (d := d) (al := al) hv hn
  rw [z, Int.add_zero] at e
  obtain ⟨h1, h2, h3⟩ := h
  refine ⟨by rw [e]; exact h1, fun w => h2 (by rw [e] at w; exact w), fun w y => ?_⟩
  obtain ⟨m, a, b⟩ := h3 w (by rw [e] at y; exact y)
  exact ⟨m, ⟨a.1, by omega, a.2.2⟩, b⟩
theorem kds_y {S U V : sS} {f n pl d al v : Int} (h : KDS S U f n pl d al v) (hv : 1 ≤ v ∧ v ≤ 3) (hn : v ≤ n) (q : dokR S f n pl al v) (k : KPD U V f (f + n - v) (dkR S f n pl v) 0 (fRa S (dkR S f n pl v) d) (gRa S (dkR S f n pl v) d) (cpf (fRa S (dkR S f n pl v) d) (f + n - v) (n - v).toNat)) (h32 : 0 ≤ Xi S 904 32 ∧ Xi S 904 32 ≤ 12) (h0 : 0 ≤ Xi S 904 109) : KDS S V f n pl d al (v + 1) := by
  have z : dcR S f n pl d al v = cpf (fRa S (dkR S f n pl v) d) (f + n - v) (n - v).toNat := by unfold dcR; rw [if_pos q]
  have e := dcT_s (S := S) (f := f) (pl := pl) (d := d) (al := al) hv hn
  rw [← z] at k
  have t0 := dcT_nn (f := f) (n := n) (pl := pl) (d := d) (al := al) (v := v) h32
  have c0 := dcR_nn (f := f) (n := n) (pl := pl) (d := d) (al := al) (m := v) h32
  obtain ⟨h1, h2, h3⟩ := h
  obtain ⟨k1, k2, k3, k4⟩ := k
  refine ⟨by rw [e]; omega, fun w => ?_, fun w y => ?_⟩
  · rw [e] at w
    have a := k3 (by omega)
    have b := h2 (by omega)
    exact ⟨a.1.trans b.1, a.2.1.trans b.2.1, fun j => (a.2.2 j).trans (b.2.2 j)⟩
  · rw [e] at y
    by_cases b : dcT S f n pl d al v = 0
    · obtain ⟨x1, x2, x3, x4⟩ := k4 (by omega) (by omega)
      refine ⟨v, ⟨hv.1, by omega, hn⟩, b, by omega, x1, by rw [x2]; omega, fun i hi => ?_⟩
      have t := x4 i hi
      rw [show (0 : Int).toNat + i = i by omega] at t
      exact t
    · obtain ⟨m, a1, a2, a3, a4, a5, a6⟩ := h3 w (by omega)
      have x := k3 (Or.inl (by omega))
      exact ⟨m, ⟨a1.1, by omega, a1.2.2⟩, a2, a3, x.1.trans a4, x.2.1.trans a5, fun i hi => (x.2.2 i).trans (a6 i hi)⟩
theorem dk_rg {S : sS} {f n pl m : Int} (hx : LXR S) (h15 : 0 ≤ Xi S 904 15) (hk : ∀ k : Nat, (k : Int) < Xi S 904 15 → Xi S 914 k ≤ 1 → Xi S 915 k ≤ 15) : -1 ≤ dkR S f n pl m ∧ dkR S f n pl m ≤ 15 := by
  unfold dkR msR
  by_cases q : nmR S (f + n - m) m ≠ -1 ∧ Xi S 914 (nmR S (f + n - m) m).toNat = (if pl = 0 then 0 else 1)
  · rw [if_pos q]
    have g := nmR_rg (S := S) (t := f + n - m) (n := m) h15
    have l : (((nmR S (f + n - m) m).toNat : Nat) : Int) < Xi S 904 15 := by have := q.1; omega
    have a := (hx (nmR S (f + n - m) m).toNat l).2.1
    have b := hk (nmR S (f + n - m) m).toNat l (by rw [q.2]; split <;> omega)
    omega
  · rw [if_neg q]; omega
theorem cpf_up {S : sS} {k d z : Int} {m : Nat} (h : 0 ≤ Xi S 904 32 ∧ Xi S 904 32 ≤ 12) (hm : m ≤ 6) : cpf (fRa S k d) z m ≤ 4449744 := (cpf_bb (fun a b => adR_nn h a b) hm).2
theorem ds_b {S : sS} {f n pl d al v k M : Int} {j : Nat} (h32 : 0 ≤ Xi S 904 32 ∧ Xi S 904 32 ≤ 12) (hv : 1 ≤ v ∧ v ≤ 4) (hn : 0 ≤ n ∧ n ≤ 6) (hj : j ≤ 6) (h9 : 0 ≤ M ∧ M ≤ 1000000) : 0 ≤ M + dcT S f n pl d al v ∧ M + dcT S f n pl d al v + cpf (fRa S k d) (f + n - v) j ≤ 2147483647 := by
  have a := dcT_nn (f := f) (n := n) (pl := pl) (d := d) (al := al) (v := v) h32
  have c := cpf_up (k := k) (d := d) (z := f + n - v) h32 hj
  have u : ∀ m : Int, 1 ≤ m → m ≤ 3 → dcR S f n pl d al m ≤ 4449744 := fun m h1 h2 => by
    unfold dcR
    split
    · exact cpf_up h32 (by omega)
    · omega
  have b : dcT S f n pl d al v ≤ 13349232 := by
    unfold dcT
    have u1 := u 1 (by omega) (by omega)
    have u2 := u 2 (by omega) (by omega)
    have u3 := u 3 (by omega) (by omega)
    split <;> split <;> split <;> omega
  omega
theorem kds_e {S U : sS} {f n pl d al v : Int} (h : KDS S U f n pl d al v) (h1 : 1 ≤ v ∧ v ≤ 4) (hv : 3 < v ∨ n < v) : KDS S U f n pl d al 4 := by
  obtain ⟨a, b, c⟩ := h
  rw [dcT_e h1.1 hv] at a b c
  refine ⟨a, b, fun q w => ?_⟩
  obtain ⟨m, m1, m2⟩ := c q w
  exact ⟨m, ⟨m1.1, by omega, m1.2.2⟩, m2⟩

def md_mo_describe__p : List rec := [(904, 905, 64, 65), (904, 905, 109, 110), (904, 905, 110, 111), (904, 905, 112, 113), (904, 905, 113, 114), (967, 968, 0, 100000), (968, 969, 0, 100000)]
abbrev Q_mo_describe__p (S : sS) (from_ : Int) (m : Int) (pl : Int) (dfd : Int) (al : Int) : pst := fun r S1 => RI S1 ∧ FR md_mo_describe__p S S1 ∧ (r = none ∧ ((m ≤ 6 → KDS S S1 from_ m pl dfd al 4) ∧ (6 < m → S1 = S)))
set_option maxRecDepth 100000 in
theorem t_mo_describe__p {S : sS} (hH : RI S) (from_ : Int) (m : Int) (pl : Int) (dfd : Int) (al : Int) (hfrom_ : 0 ≤ from_ ∧ from_ ≤ 5900) (hm : 0 ≤ m ∧ m ≤ 6000) (hpl : 0 ≤ pl ∧ pl ≤ 1) (hdfd : 0 ≤ dfd ∧ dfd ≤ 1) (hal : -1 ≤ al ∧ al ≤ 15) (hLS : LSP S) (h15 : 0 ≤ Xi S 904 15) (hLX : LXR S) (hB : ABV S) (hp32 : 0 ≤ Xi S 904 32 ∧ Xi S 904 32 ≤ 12) (hkk : Hid (∀ k : Nat, (k : Int) < Xi S 904 15 → Xi S 914 k ≤ 1 → Xi S 915 k ≤ 15)) (h109 : 0 ≤ Xi S 904 109 ∧ Xi S 904 109 ≤ 1000000) (d : Nat) : Mp lay0 (d + 10) m_mo_describe [.ref 904, iv from_, iv m, iv pl, iv dfd, iv al] S (Q_mo_describe__p S from_ m pl dfd al) := by
  refine Mp_R rfl rfl (fun fu => ?_)
  have hF : FR md_mo_describe__p S S := FR.rf
  have w1 : -2147483648 ≤ Xi S 904 109 ∧ Xi S 904 109 ≤ 2147483647 := Xi_rgI
  have w2 : -2147483648 ≤ Xi S 904 15 ∧ Xi S 904 15 ≤ 2147483647 := Xi_rgI
  have w3 : -2147483648 ≤ Xi S 904 32 ∧ Xi S 904 32 ≤ 2147483647 := Xi_rgI
  have C10 : ∀ (n10 : Nat) (_ : n10 ≤ fu) (T1 : sS) (_ : RI T1) (_ : FR md_mo_describe__p S T1) (v6 : Int), (1 ≤ v6 ∧ v6 ≤ 4) → (m ≤ 6) → (1 ≤ v6 ∧ v6 ≤ 4) → (Hid (KDS S T1 from_ m pl dfd al v6)) → Pl n10 lay0 (d + 9) m_mo_describe 10 [(0, .ref 904), (1, iv from_), (2, iv m), (3, iv pl), (4, iv dfd), (5, iv al), (6, iv v6)] [] T1 (Q_mo_describe__p S from_ m pl dfd al) := by
    intro n10
    induction n10 with
    | zero => intros; exact Pl_0
    | succ n10 ih10 =>
      intro hm10 T1 hHT1 hFT1 v6 w4 w5 w6 K10
      have w7 : Xi T1 904 15 = Xi S 904 15 := hFT1.x _ _ rfl
      have w8 : Xi T1 904 16 = Xi S 904 16 := hFT1.x _ _ rfl
      have w9 : Xi T1 904 32 = Xi S 904 32 := hFT1.x _ _ rfl
      have w10 : -2147483648 ≤ Xi T1 904 109 ∧ Xi T1 904 109 ≤ 2147483647 := Xi_rgI
      have w11 : -2147483648 ≤ Xi T1 904 15 ∧ Xi T1 904 15 ≤ 2147483647 := Xi_rgI
      have w12 : -2147483648 ≤ Xi T1 904 32 ∧ Xi T1 904 32 ≤ 2147483647 := Xi_rgI
      refine ys_iload rfl rfl ?_
      refine y_iconst rfl ?_
      refine y_icmp_gt rfl rfl (by unfold rg; omega) (by unfold rg; omega) (fun w13 => ?_) (fun w14 => ?_)
      · refine y_return rfl rfl ?_
        exact ⟨hHT1, hFT1, rfl, (by first | (have t := K10; exact ⟨fun _ => kds_e K10.o (by omega) (by omega), fun q => absurd q (by omega)⟩) | exact ⟨fun q => absurd q (by omega), fun _ => rfl⟩)⟩
      · refine y_iload rfl rfl ?_
        refine y_iload_n rfl rfl ?_
        refine y_icmp_gt rfl rfl (by unfold rg; omega) (by unfold rg; omega) (fun w15 => ?_) (fun w16 => ?_)
        · refine y_return rfl rfl ?_
          exact ⟨hHT1, hFT1, rfl, (by first | (have t := K10; exact ⟨fun _ => kds_e K10.o (by omega) (by omega), fun q => absurd q (by omega)⟩) | exact ⟨fun q => absurd q (by omega), fun _ => rfl⟩)⟩
        · refine y_aload_n rfl rfl ?_
          refine y_iload_n rfl rfl ?_
          refine y_iload_n rfl rfl ?_
          refine y_iadd rfl ?_
          refine y_iload rfl rfl ?_
          refine y_isub rfl ?_
          refine y_iload rfl rfl ?_
          refine y_iload_n rfl rfl ?_
          refine y_if_eq rfl rfl (by unfold rg; omega) (fun w17 => ?_) (fun w18 => ?_)
          · refine y_iconst rfl ?_
            refine y_callV rfl rfl rfl (t_mo_means__p hHT1 ((from_ + m) - v6) v6 0 ⟨by omega, by omega⟩ ⟨by omega, by omega⟩ ⟨by omega, by omega⟩ (by first | assumption | exact (LSP_FR hFT1 rfl rfl (by assumption : LSP S))) (by first | assumption | omega) _) ?_
            rintro _ _ ⟨rfl, z19, rfl, w19, f40⟩
            show Pl _ _ _ _ _ _ [iv z19] _ _
            have A40 : Hid (AMR S T1) := AMR_FR hFT1 rfl rfl
            have k40 : z19 = dkR S from_ m pl v6 := by unfold dkR; have t := f40; rw [msR_sm A40.o.1] at t; first | (rw [if_pos (show pl = 0 by omega)]; exact t) | (rw [if_neg (show ¬ pl = 0 by omega)]; exact t)
            clear f40
            have r40 := dk_rg (S := S) (f := from_) (n := m) (pl := pl) (m := v6) hLX h15 hkk.o
            refine y_istore rfl rfl rfl ?_
            refine y_iload rfl rfl ?_
            refine y_iconst rfl ?_
            refine y_icmp_eq rfl rfl (by unfold rg; omega) (by unfold rg; omega) (fun w20 => ?_) (fun w21 => ?_)
            · refine y_iinc rfl rfl rfl rfl ?_
              have J84 : Hid (KDS S T1 from_ m pl dfd al (v6 + 1)) := by first | exact o81_ | exact kds_n K10.o (by omega) (by omega) (fun q => by first | (have t := b62; rcases q.2 with w | w <;> omega) | exact q.1 (by omega))
              refine y_goto rfl rfl ?_
              exact Pl_weak (ih10 (by omega) T1 hHT1 hFT1 ((v6 + 1)) (by omega) (by omega) (by omega) (by first | exact J84 | exact kds_0)) (by omega) (And.intro rfl (And.intro rfl (And.intro rfl (And.intro rfl (And.intro rfl (And.intro rfl (And.intro rfl (True.intro))))))))
            · refine y_iload rfl rfl ?_
              refine y_iconst rfl ?_
              refine y_icmp_eq rfl rfl (by unfold rg; omega) (by unfold rg; omega) (fun w22 => ?_) (fun w23 => ?_)
              · refine y_aload_n rfl rfl ?_
                have O68 : Hid (dokR S from_ m pl al v6) := ⟨by omega, by first | (have t := b62; exact Or.inr (by omega)) | exact Or.inl (by omega)⟩
                have B68 : 0 ≤ Xi T1 904 109 ∧ Xi T1 904 109 + cpf (fRa T1 z19 dfd) (from_ + m - v6) (from_ + m - v6 - from_).toNat ≤ 2147483647 := by rw [fRa_am A40.o, K10.o.1]; exact ds_b hp32 (by omega) (by omega) (by omega) h109
                refine y_iload_n rfl rfl ?_
                refine y_iload_n rfl rfl ?_
                refine y_iload_n rfl rfl ?_
                refine y_iadd rfl ?_
                refine y_iload rfl rfl ?_
                refine y_isub rfl ?_
                refine y_iload rfl rfl ?_
                refine y_iload rfl rfl ?_
                refine y_iconst rfl ?_
                refine y_callV rfl rfl rfl (t_mo_parted__p hHT1 from_ ((from_ + m) - v6) z19 dfd 0 ⟨by omega, by omega⟩ ⟨by omega, by omega⟩ ⟨by omega, by omega⟩ ⟨by omega, by omega⟩ ⟨by omega, by omega⟩ (by first | assumption | exact (LSP_FR hFT1 rfl rfl (by assumption : LSP S))) (by first | assumption | omega) (by first | assumption | exact (LXR_FR hFT1 rfl rfl (by assumption : LXR S))) (by first | assumption | exact (ABV_FR hFT1 rfl (by assumption : ABV S))) (by first | assumption | omega) (by first | assumption | omega) (by first | assumption | omega) (by first | assumption | omega) (B68) _) ?_
                rintro _ T2 ⟨hHT2, w25, rfl, o81⟩
                have hFT2 : FR md_mo_describe__p S T2 := FR.tr hFT1 w25 rfl
                show Pl _ _ _ _ _ _ [] _ _
                have K81 : True := trivial
                have o81_ : Hid (KDS S T2 from_ m pl dfd al (v6 + 1)) := kds_y K10.o (by omega) (by omega) O68.o (by have t := o81; rw [fRa_am A40.o, gRa_am A40.o, k40, show (from_ + m - v6 - from_).toNat = (m - v6).toNat by omega] at t; exact t) hp32 h109.1
                clear o81
                refine y_iinc rfl rfl rfl rfl ?_
                have J84 : Hid (KDS S T2 from_ m pl dfd al (v6 + 1)) := by first | exact o81_ | exact kds_n K10.o (by omega) (by omega) (fun q => by first | (have t := b62; rcases q.2 with w | w <;> omega) | exact q.1 (by omega))
                refine y_goto rfl rfl ?_
                have w26 : Xi T2 904 15 = Xi T1 904 15 := (show Xi T2 904 15 = Xi T1 904 15 from w25.x _ _ rfl)
                have w27 : Xi T2 904 32 = Xi T1 904 32 := (show Xi T2 904 32 = Xi T1 904 32 from w25.x _ _ rfl)
                exact Pl_weak (ih10 (by omega) T2 hHT2 hFT2 ((v6 + 1)) (by omega) (by omega) (by omega) (by first | exact J84 | exact kds_0)) (by omega) (And.intro rfl (And.intro rfl (And.intro rfl (And.intro rfl (And.intro rfl (And.intro rfl (And.intro rfl (True.intro))))))))
              · refine y_aload_n rfl rfl ?_
                refine y_iload rfl rfl ?_
                refine y_iload rfl rfl ?_
                refine y_callV rfl rfl rfl (t_mo_isBelow__p hHT1 z19 al ⟨by omega, by omega⟩ ⟨by omega, by omega⟩ (by first | assumption | exact (ABV_FR hFT1 rfl (by assumption : ABV S))) _) ?_
                rintro _ _ ⟨rfl, z28, rfl, w28, f62⟩
                show Pl _ _ _ _ _ _ [iv z28] _ _
                have b62 : z28 = blR S (dkR S from_ m pl v6) al := by have t := f62; rw [blR_am A40.o, k40] at t; exact t
                clear f62
                refine y_if_eq rfl rfl (by unfold rg; omega) (fun w29 => ?_) (fun w30 => ?_)
                · refine y_iinc rfl rfl rfl rfl ?_
                  have J84 : Hid (KDS S T1 from_ m pl dfd al (v6 + 1)) := by first | exact o81_ | exact kds_n K10.o (by omega) (by omega) (fun q => by first | (have t := b62; rcases q.2 with w | w <;> omega) | exact q.1 (by omega))
                  refine y_goto rfl rfl ?_
                  exact Pl_weak (ih10 (by omega) T1 hHT1 hFT1 ((v6 + 1)) (by omega) (by omega) (by omega) (by first | exact J84 | exact kds_0)) (by omega) (And.intro rfl (And.intro rfl (And.intro rfl (And.intro rfl (And.intro rfl (And.intro rfl (And.intro rfl (True.intro))))))))
                · refine y_aload_n rfl rfl ?_
                  have O68 : Hid (dokR S from_ m pl al v6) := ⟨by omega, by first | (have t := b62; exact Or.inr (by omega)) | exact Or.inl (by omega)⟩
                  have B68 : 0 ≤ Xi T1 904 109 ∧ Xi T1 904 109 + cpf (fRa T1 z19 dfd) (from_ + m - v6) (from_ + m - v6 - from_).toNat ≤ 2147483647 := by rw [fRa_am A40.o, K10.o.1]; exact ds_b hp32 (by omega) (by omega) (by omega) h109
                  refine y_iload_n rfl rfl ?_
                  refine y_iload_n rfl rfl ?_
                  refine y_iload_n rfl rfl ?_
                  refine y_iadd rfl ?_
                  refine y_iload rfl rfl ?_
                  refine y_isub rfl ?_
                  refine y_iload rfl rfl ?_
                  refine y_iload rfl rfl ?_
                  refine y_iconst rfl ?_
                  refine y_callV rfl rfl rfl (t_mo_parted__p hHT1 from_ ((from_ + m) - v6) z19 dfd 0 ⟨by omega, by omega⟩ ⟨by omega, by omega⟩ ⟨by omega, by omega⟩ ⟨by omega, by omega⟩ ⟨by omega, by omega⟩ (by first | assumption | exact (LSP_FR hFT1 rfl rfl (by assumption : LSP S))) (by first | assumption | omega) (by first | assumption | exact (LXR_FR hFT1 rfl rfl (by assumption : LXR S))) (by first | assumption | exact (ABV_FR hFT1 rfl (by assumption : ABV S))) (by first | assumption | omega) (by first | assumption | omega) (by first | assumption | omega) (by first | assumption | omega) (B68) _) ?_
                  rintro _ T3 ⟨hHT3, w32, rfl, o81⟩
                  have hFT3 : FR md_mo_describe__p S T3 := FR.tr hFT1 w32 rfl
                  show Pl _ _ _ _ _ _ [] _ _
                  have K81 : True := trivial
                  have o81_ : Hid (KDS S T3 from_ m pl dfd al (v6 + 1)) := kds_y K10.o (by omega) (by omega) O68.o (by have t := o81; rw [fRa_am A40.o, gRa_am A40.o, k40, show (from_ + m - v6 - from_).toNat = (m - v6).toNat by omega] at t; exact t) hp32 h109.1
                  clear o81
                  refine y_iinc rfl rfl rfl rfl ?_
                  have J84 : Hid (KDS S T3 from_ m pl dfd al (v6 + 1)) := by first | exact o81_ | exact kds_n K10.o (by omega) (by omega) (fun q => by first | (have t := b62; rcases q.2 with w | w <;> omega) | exact q.1 (by omega))
                  refine y_goto rfl rfl ?_
                  have w33 : Xi T3 904 15 = Xi T1 904 15 := (show Xi T3 904 15 = Xi T1 904 15 from w32.x _ _ rfl)
                  have w34 : Xi T3 904 32 = Xi T1 904 32 := (show Xi T3 904 32 = Xi T1 904 32 from w32.x _ _ rfl)
                  exact Pl_weak (ih10 (by omega) T3 hHT3 hFT3 ((v6 + 1)) (by omega) (by omega) (by omega) (by first | exact J84 | exact kds_0)) (by omega) (And.intro rfl (And.intro rfl (And.intro rfl (And.intro rfl (And.intro rfl (And.intro rfl (And.intro rfl (True.intro))))))))
          · refine y_iconst rfl ?_
            refine y_goto rfl rfl ?_
            refine y_callV rfl rfl rfl (t_mo_means__p hHT1 ((from_ + m) - v6) v6 1 ⟨by omega, by omega⟩ ⟨by omega, by omega⟩ ⟨by omega, by omega⟩ (by first | assumption | exact (LSP_FR hFT1 rfl rfl (by assumption : LSP S))) (by first | assumption | omega) _) ?_
            rintro _ _ ⟨rfl, z35, rfl, w35, f40⟩
            show Pl _ _ _ _ _ _ [iv z35] _ _
            have A40 : Hid (AMR S T1) := AMR_FR hFT1 rfl rfl
            have k40 : z35 = dkR S from_ m pl v6 := by unfold dkR; have t := f40; rw [msR_sm A40.o.1] at t; first | (rw [if_pos (show pl = 0 by omega)]; exact t) | (rw [if_neg (show ¬ pl = 0 by omega)]; exact t)
            clear f40
            have r40 := dk_rg (S := S) (f := from_) (n := m) (pl := pl) (m := v6) hLX h15 hkk.o
            refine y_istore rfl rfl rfl ?_
            refine y_iload rfl rfl ?_
            refine y_iconst rfl ?_
            refine y_icmp_eq rfl rfl (by unfold rg; omega) (by unfold rg; omega) (fun w36 => ?_) (fun w37 => ?_)
            · refine y_iinc rfl rfl rfl rfl ?_
              have J84 : Hid (KDS S T1 from_ m pl dfd al (v6 + 1)) := by first | exact o81_ | exact kds_n K10.o (by omega) (by omega) (fun q => by first | (have t := b62; rcases q.2 with w | w <;> omega) | exact q.1 (by omega))
              refine y_goto rfl rfl ?_
              exact Pl_weak (ih10 (by omega) T1 hHT1 hFT1 ((v6 + 1)) (by omega) (by omega) (by omega) (by first | exact J84 | exact kds_0)) (by omega) (And.intro rfl (And.intro rfl (And.intro rfl (And.intro rfl (And.intro rfl (And.intro rfl (And.intro rfl (True.intro))))))))
            · refine y_iload rfl rfl ?_
              refine y_iconst rfl ?_
              refine y_icmp_eq rfl rfl (by unfold rg; omega) (by unfold rg; omega) (fun w38 => ?_) (fun w39 => ?_)
              · refine y_aload_n rfl rfl ?_
                have O68 : Hid (dokR S from_ m pl al v6) := ⟨by omega, by first | (have t := b62; exact Or.inr (by omega)) | exact Or.inl (by omega)⟩
                have B68 : 0 ≤ Xi T1 904 109 ∧ Xi T1 904 109 + cpf (fRa T1 z35 dfd) (from_ + m - v6) (from_ + m - v6 - from_).toNat ≤ 2147483647 := by rw [fRa_am A40.o, K10.o.1]; exact ds_b hp32 (by omega) (by omega) (by omega) h109
                refine y_iload_n rfl rfl ?_
                refine y_iload_n rfl rfl ?_
                refine y_iload_n rfl rfl ?_
                refine y_iadd rfl ?_
                refine y_iload rfl rfl ?_
                refine y_isub rfl ?_
                refine y_iload rfl rfl ?_
                refine y_iload rfl rfl ?_
                refine y_iconst rfl ?_
                refine y_callV rfl rfl rfl (t_mo_parted__p hHT1 from_ ((from_ + m) - v6) z35 dfd 0 ⟨by omega, by omega⟩ ⟨by omega, by omega⟩ ⟨by omega, by omega⟩ ⟨by omega, by omega⟩ ⟨by omega, by omega⟩ (by first | assumption | exact (LSP_FR hFT1 rfl rfl (by assumption : LSP S))) (by first | assumption | omega) (by first | assumption | exact (LXR_FR hFT1 rfl rfl (by assumption : LXR S))) (by first | assumption | exact (ABV_FR hFT1 rfl (by assumption : ABV S))) (by first | assumption | omega) (by first | assumption | omega) (by first | assumption | omega) (by first | assumption | omega) (B68) _) ?_
                rintro _ T4 ⟨hHT4, w41, rfl, o81⟩
                have hFT4 : FR md_mo_describe__p S T4 := FR.tr hFT1 w41 rfl
                show Pl _ _ _ _ _ _ [] _ _
                have K81 : True := trivial
                have o81_ : Hid (KDS S T4 from_ m pl dfd al (v6 + 1)) := kds_y K10.o (by omega) (by omega) O68.o (by have t := o81; rw [fRa_am A40.o, gRa_am A40.o, k40, show (from_ + m - v6 - from_).toNat = (m - v6).toNat by omega] at t; exact t) hp32 h109.1
                clear o81
                refine y_iinc rfl rfl rfl rfl ?_
                have J84 : Hid (KDS S T4 from_ m pl dfd al (v6 + 1)) := by first | exact o81_ | exact kds_n K10.o (by omega) (by omega) (fun q => by first | (have t := b62; rcases q.2 with w | w <;> omega) | exact q.1 (by omega))
                refine y_goto rfl rfl ?_
                have w42 : Xi T4 904 15 = Xi T1 904 15 := (show Xi T4 904 15 = Xi T1 904 15 from w41.x _ _ rfl)
                have w43 : Xi T4 904 32 = Xi T1 904 32 := (show Xi T4 904 32 = Xi T1 904 32 from w41.x _ _ rfl)
                exact Pl_weak (ih10 (by omega) T4 hHT4 hFT4 ((v6 + 1)) (by omega) (by omega) (by omega) (by first | exact J84 | exact kds_0)) (by omega) (And.intro rfl (And.intro rfl (And.intro rfl (And.intro rfl (And.intro rfl (And.intro rfl (And.intro rfl (True.intro))))))))
              · refine y_aload_n rfl rfl ?_
                refine y_iload rfl rfl ?_
                refine y_iload rfl rfl ?_
                refine y_callV rfl rfl rfl (t_mo_isBelow__p hHT1 z35 al ⟨by omega, by omega⟩ ⟨by omega, by omega⟩ (by first | assumption | exact (ABV_FR hFT1 rfl (by assumption : ABV S))) _) ?_
                rintro _ _ ⟨rfl, z44, rfl, w44, f62⟩
                show Pl _ _ _ _ _ _ [iv z44] _ _
                have b62 : z44 = blR S (dkR S from_ m pl v6) al := by have t := f62; rw [blR_am A40.o, k40] at t; exact t
                clear f62
                refine y_if_eq rfl rfl (by unfold rg; omega) (fun w45 => ?_) (fun w46 => ?_)
                · refine y_iinc rfl rfl rfl rfl ?_
                  have J84 : Hid (KDS S T1 from_ m pl dfd al (v6 + 1)) := by first | exact o81_ | exact kds_n K10.o (by omega) (by omega) (fun q => by first | (have t := b62; rcases q.2 with w | w <;> omega) | exact q.1 (by omega))
                  refine y_goto rfl rfl ?_
                  exact Pl_weak (ih10 (by omega) T1 hHT1 hFT1 ((v6 + 1)) (by omega) (by omega) (by omega) (by first | exact J84 | exact kds_0)) (by omega) (And.intro rfl (And.intro rfl (And.intro rfl (And.intro rfl (And.intro rfl (And.intro rfl (And.intro rfl (True.intro))))))))
                · refine y_aload_n rfl rfl ?_
                  have O68 : Hid (dokR S from_ m pl al v6) := ⟨by omega, by first | (have t := b62; exact Or.inr (by omega)) | exact Or.inl (by omega)⟩
                  have B68 : 0 ≤ Xi T1 904 109 ∧ Xi T1 904 109 + cpf (fRa T1 z35 dfd) (from_ + m - v6) (from_ + m - v6 - from_).toNat ≤ 2147483647 := by rw [fRa_am A40.o, K10.o.1]; exact ds_b hp32 (by omega) (by omega) (by omega) h109
                  refine y_iload_n rfl rfl ?_
                  refine y_iload_n rfl rfl ?_
                  refine y_iload_n rfl rfl ?_
                  refine y_iadd rfl ?_
                  refine y_iload rfl rfl ?_
                  refine y_isub rfl ?_
                  refine y_iload rfl rfl ?_
                  refine y_iload rfl rfl ?_
                  refine y_iconst rfl ?_
                  refine y_callV rfl rfl rfl (t_mo_parted__p hHT1 from_ ((from_ + m) - v6) z35 dfd 0 ⟨by omega, by omega⟩ ⟨by omega, by omega⟩ ⟨by omega, by omega⟩ ⟨by omega, by omega⟩ ⟨by omega, by omega⟩ (by first | assumption | exact (LSP_FR hFT1 rfl rfl (by assumption : LSP S))) (by first | assumption | omega) (by first | assumption | exact (LXR_FR hFT1 rfl rfl (by assumption : LXR S))) (by first | assumption | exact (ABV_FR hFT1 rfl (by assumption : ABV S))) (by first | assumption | omega) (by first | assumption | omega) (by first | assumption | omega) (by first | assumption | omega) (B68) _) ?_
                  rintro _ T5 ⟨hHT5, w48, rfl, o81⟩
                  have hFT5 : FR md_mo_describe__p S T5 := FR.tr hFT1 w48 rfl
                  show Pl _ _ _ _ _ _ [] _ _
                  have K81 : True := trivial
                  have o81_ : Hid (KDS S T5 from_ m pl dfd al (v6 + 1)) := kds_y K10.o (by omega) (by omega) O68.o (by have t := o81; rw [fRa_am A40.o, gRa_am A40.o, k40, show (from_ + m - v6 - from_).toNat = (m - v6).toNat by omega] at t; exact t) hp32 h109.1
                  clear o81
                  refine y_iinc rfl rfl rfl rfl ?_
                  have J84 : Hid (KDS S T5 from_ m pl dfd al (v6 + 1)) := by first | exact o81_ | exact kds_n K10.o (by omega) (by omega) (fun q => by first | (have t := b62; rcases q.2 with w | w <;> omega) | exact q.1 (by omega))
                  refine y_goto rfl rfl ?_
                  have w49 : Xi T5 904 15 = Xi T1 904 15 := (show Xi T5 904 15 = Xi T1 904 15 from w48.x _ _ rfl)
                  have w50 : Xi T5 904 32 = Xi T1 904 32 := (show Xi T5 904 32 = Xi T1 904 32 from w48.x _ _ rfl)
                  exact Pl_weak (ih10 (by omega) T5 hHT5 hFT5 ((v6 + 1)) (by omega) (by omega) (by omega) (by first | exact J84 | exact kds_0)) (by omega) (And.intro rfl (And.intro rfl (And.intro rfl (And.intro rfl (And.intro rfl (And.intro rfl (And.intro rfl (True.intro))))))))
  refine y_iload_n rfl rfl ?_
  refine y_bipush rfl rfl ?_
  refine y_icmp_le rfl rfl (by unfold rg; omega) (by unfold rg; omega) (fun w51 => ?_) (fun w52 => ?_)
  · refine y_iconst rfl ?_
    refine y_istore rfl rfl rfl ?_
    exact Pl_weak (C10 fu (by omega) S hH hF (1) (by omega) (by omega) (by omega) (by first | exact J84 | exact kds_0)) (by omega) (And.intro rfl (And.intro rfl (And.intro rfl (And.intro rfl (And.intro rfl (And.intro rfl (And.intro rfl (True.intro))))))))
  · refine y_return rfl rfl ?_
    exact ⟨hH, hF, rfl, (by first | (have t := K10; exact ⟨fun _ => kds_e K10.o (by omega) (by omega), fun q => absurd q (by omega)⟩) | exact ⟨fun q => absurd q (by omega), fun _ => rfl⟩)⟩
def md_mo_oneReading__p : List rec := [(904, 905, 104, 105), (904, 905, 105, 106), (904, 905, 106, 107)]
abbrev Q_mo_oneReading__p (S : sS) (t : Int) : pst := fun r S1 => RI S1 ∧ FR md_mo_oneReading__p S S1 ∧ (r = none ∧ (NT3 S1 = (if Xi S 904 109 ≤ 0 then ntF (NT3 S) 4 (Xi S 908 t.toNat) else if 2 ≤ Xi S 904 109 then ntF (NT3 S) 7 (Xi S 908 t.toNat) else NT3 S)))
set_option maxRecDepth 100000 in
theorem t_mo_oneReading__p {S : sS} (hH : RI S) (t : Int) (ht : -2147483648 ≤ t ∧ t ≤ 2147483647) (d : Nat) : Mp lay0 (d + 4) m_mo_oneReading [.ref 904, iv t] S (Q_mo_oneReading__p S t) := by
  refine Mp_R rfl rfl (fun fu => ?_)
  have hF : FR md_mo_oneReading__p S S := FR.rf
  have w1 : -2147483648 ≤ Xi S 904 109 ∧ Xi S 904 109 ≤ 2147483647 := Xi_rgI
  refine y_aload_n rfl rfl ?_
  refine y_aload_n rfl rfl ?_
  refine y_gfi rfl rfl rfl rfl rfl ?_
  refine y_if_le rfl rfl (by unfold rg; omega) (fun w2 => ?_) (fun w3 => ?_)
  · refine y_iconst rfl ?_
    refine y_iconst rfl ?_
    refine y_iload_n rfl rfl ?_
    refine y_callV rfl rfl rfl (t_mo_need__p hH 0 4 t ⟨by omega, by omega⟩ ⟨by omega, by omega⟩ ⟨by omega, by omega⟩ _) ?_
    rintro _ T1 ⟨hHT1, w5, rfl, nt15⟩
    have hFT1 : FR md_mo_oneReading__p S T1 := FR.tr hF w5 rfl
    show Pl _ _ _ _ _ _ [] _ _
    refine y_aload_n rfl rfl ?_
    refine y_aload_n rfl rfl ?_
    refine y_gfi rfl rfl rfl rfl rfl ?_
    have w6 : (Xi T1 904 109) = (Xi S 904 109) := (show Xi T1 904 109 = Xi S 904 109 from w5.x _ _ rfl)
    rw [w6]
    refine y_iconst rfl ?_
    refine y_icmp_ge rfl rfl (by unfold rg; omega) (by unfold rg; omega) (fun w7 => ?_) (fun w8 => ?_)
    · exfalso; omega
    · refine y_iconst rfl ?_
      refine y_goto rfl rfl ?_
      refine y_bipush rfl rfl ?_
      refine y_iload_n rfl rfl ?_
      refine y_callV rfl rfl rfl (t_mo_need__p hHT1 1 7 t ⟨by omega, by omega⟩ ⟨by omega, by omega⟩ ⟨by omega, by omega⟩ _) ?_
      rintro _ T2 ⟨hHT2, w11, rfl, nt35⟩
      have hFT2 : FR md_mo_oneReading__p S T2 := FR.tr hFT1 w11 rfl
      show Pl _ _ _ _ _ _ [] _ _
      have p35 : Xi T1 908 t.toNat = Xi S 908 t.toNat := (hFT1.cx 908 rfl _).1
      have R35 := nt35
      rw [p35, nt15] at R35
      (try rw [if_pos (show (0 : Int) = 0 from rfl)] at R35); (try rw [if_neg (show ¬ (1 : Int) = 0 by decide)] at R35); (try rw [if_pos (show (0 : Int) = 0 from rfl)] at R35); (try rw [if_neg (show ¬ (1 : Int) = 0 by decide)] at R35)
      refine y_return rfl rfl ?_
      have w12 : Xi T2 904 109 = Xi S 904 109 := (show Xi T2 904 109 = Xi T1 904 109 from w11.x _ _ rfl).trans ((show Xi T1 904 109 = Xi S 904 109 from w5.x _ _ rfl))
      exact ⟨hHT2, hFT2, rfl, (by first | (rw [if_pos (by omega)]; exact R35) | (rw [if_neg (by omega), if_pos (by omega)]; exact R35) | (rw [if_neg (by omega), if_neg (by omega)]; exact R35))⟩
  · refine y_iconst rfl ?_
    refine y_goto rfl rfl ?_
    refine y_iconst rfl ?_
    refine y_iload_n rfl rfl ?_
    refine y_callV rfl rfl rfl (t_mo_need__p hH 1 4 t ⟨by omega, by omega⟩ ⟨by omega, by omega⟩ ⟨by omega, by omega⟩ _) ?_
    rintro _ T3 ⟨hHT3, w14, rfl, nt15⟩
    have hFT3 : FR md_mo_oneReading__p S T3 := FR.tr hF w14 rfl
    show Pl _ _ _ _ _ _ [] _ _
    refine y_aload_n rfl rfl ?_
    refine y_aload_n rfl rfl ?_
    refine y_gfi rfl rfl rfl rfl rfl ?_
    have w15 : (Xi T3 904 109) = (Xi S 904 109) := (show Xi T3 904 109 = Xi S 904 109 from w14.x _ _ rfl)
    rw [w15]
    refine y_iconst rfl ?_
    refine y_icmp_ge rfl rfl (by unfold rg; omega) (by unfold rg; omega) (fun w16 => ?_) (fun w17 => ?_)
    · refine y_iconst rfl ?_
      refine y_bipush rfl rfl ?_
      refine y_iload_n rfl rfl ?_
      refine y_callV rfl rfl rfl (t_mo_need__p hHT3 0 7 t ⟨by omega, by omega⟩ ⟨by omega, by omega⟩ ⟨by omega, by omega⟩ _) ?_
      rintro _ T4 ⟨hHT4, w20, rfl, nt35⟩
      have hFT4 : FR md_mo_oneReading__p S T4 := FR.tr hFT3 w20 rfl
      show Pl _ _ _ _ _ _ [] _ _
      have p35 : Xi T3 908 t.toNat = Xi S 908 t.toNat := (hFT3.cx 908 rfl _).1
      have R35 := nt35
      rw [p35, nt15] at R35
      (try rw [if_pos (show (0 : Int) = 0 from rfl)] at R35); (try rw [if_neg (show ¬ (1 : Int) = 0 by decide)] at R35); (try rw [if_pos (show (0 : Int) = 0 from rfl)] at R35); (try rw [if_neg (show ¬ (1 : Int) = 0 by decide)] at R35)
      refine y_return rfl rfl ?_
      have w21 : Xi T4 904 109 = Xi S 904 109 := (show Xi T4 904 109 = Xi T3 904 109 from w20.x _ _ rfl).trans ((show Xi T3 904 109 = Xi S 904 109 from w14.x _ _ rfl))
      exact ⟨hHT4, hFT4, rfl, (by first | (rw [if_pos (by omega)]; exact R35) | (rw [if_neg (by omega), if_pos (by omega)]; exact R35) | (rw [if_neg (by omega), if_neg (by omega)]; exact R35))⟩
    · refine y_iconst rfl ?_
      refine y_goto rfl rfl ?_
      refine y_bipush rfl rfl ?_
      refine y_iload_n rfl rfl ?_
      refine y_callV rfl rfl rfl (t_mo_need__p hHT3 1 7 t ⟨by omega, by omega⟩ ⟨by omega, by omega⟩ ⟨by omega, by omega⟩ _) ?_
      rintro _ T5 ⟨hHT5, w24, rfl, nt35⟩
      have hFT5 : FR md_mo_oneReading__p S T5 := FR.tr hFT3 w24 rfl
      show Pl _ _ _ _ _ _ [] _ _
      have p35 : Xi T3 908 t.toNat = Xi S 908 t.toNat := (hFT3.cx 908 rfl _).1
      have R35 := nt35
      rw [p35, nt15] at R35
      (try rw [if_pos (show (0 : Int) = 0 from rfl)] at R35); (try rw [if_neg (show ¬ (1 : Int) = 0 by decide)] at R35); (try rw [if_pos (show (0 : Int) = 0 from rfl)] at R35); (try rw [if_neg (show ¬ (1 : Int) = 0 by decide)] at R35)
      refine y_return rfl rfl ?_
      have w25 : Xi T5 904 109 = Xi S 904 109 := (show Xi T5 904 109 = Xi T3 904 109 from w24.x _ _ rfl).trans ((show Xi T3 904 109 = Xi S 904 109 from w14.x _ _ rfl))
      exact ⟨hHT5, hFT5, rfl, (by first | (rw [if_pos (by omega)]; exact R35) | (rw [if_neg (by omega), if_pos (by omega)]; exact R35) | (rw [if_neg (by omega), if_neg (by omega)]; exact R35))⟩
/-! descriptions: the class -/
def rln (S : sS) (has t : Int) : Nat → Int → Int → Int
  | 0, _, l => l
  | n + 1, p, l => rln S has t n (p + 1) (if iandF (ishrF has p) 1 = 1 ∧ Xi S 9 p.toNat = t then p else l)
theorem rln_y {S : sS} {has t p c : Int} (hp : p < 12) (h : iandF (ishrF has p) 1 = 1 ∧ Xi S 9 p.toNat = t) : rln S has t (12 - p).toNat p c = rln S has t (12 - (p + 1)).toNat (p + 1) p := by
  rw [tn_s hp]; show rln S has t _ (p + 1) (if _ then _ else _) = _; rw [if_pos h]
theorem rln_n {S : sS} {has t p c : Int} (hp : p < 12) (h : ¬ (iandF (ishrF has p) 1 = 1 ∧ Xi S 9 p.toNat = t)) : rln S has t (12 - p).toNat p c = rln S has t (12 - (p + 1)).toNat (p + 1) c := by
  rw [tn_s hp]; show rln S has t _ (p + 1) (if _ then _ else _) = _; rw [if_neg h]
theorem rln_e {S : sS} {has t p c : Int} (hp : 12 ≤ p) : rln S has t (12 - p).toNat p c = c := by rw [tn_z hp]; rfl
def rlF (S : sS) (k a b vals : Int) : Int := if mnV S a b / 256 ≠ 4 ∨ vals = 0 then -1 else rln S (pps S k) (Xi S 8 (mnV S a b % 256).toNat) 12 0 (-1)
theorem rl_0 {S : sS} {k a b v m : Int} (hm : mnV S a b = m) (h : m / 256 ≠ 4 ∨ v = 0) : (-1 : Int) = rlF S k a b v := by unfold rlF; rw [hm, if_pos h]
theorem rl_v {S : sS} {k a b v m p : Int} (hm : mnV S a b = m) (hp : p = pps S k) (h4 : m / 256 = 4) (hv : v ≠ 0) : rlF S k a b v = rln S p (Xi S 8 (mnV S a b % 256).toNat) (12 - 0 : Int).toNat 0 (-1) := by
  unfold rlF
  rw [hm, if_neg (by omega), ← hp]
  rfl
/-- the kinds that end a description -/
def ckC (S : sS) (t pl m : Int) : Int := fnd S (if pl = 0 then 0 else 11) (t - m) t
abbrev cokC (S : sS) (t pl al m : Int) : Prop := ckC S t pl m ≠ -1 ∧ (al = -1 ∨ isK S (ckC S t pl m) al = 1)
def ccC (S : sS) (a t pl d al m : Int) : Int := if cokC S t pl al m then cpF S (ckC S t pl m) a (t - m) d else 0
def ccT (S : sS) (a t pl d al v : Int) : Int := (if 1 < v ∧ 1 ≤ t - a then ccC S a t pl d al 1 else 0) + (if 2 < v ∧ 2 ≤ t - a then ccC S a t pl d al 2 else 0) + (if 3 < v ∧ 3 ≤ t - a then ccC S a t pl d al 3 else 0)
theorem cpF_nn {S : sS} {k a b d : Int} : 0 ≤ cpF S k a b d ∧ cpF S k a b d ≤ 4449744 := by
  unfold cpF
  split
  · omega
  · exact cpf_bb fA_b (by omega)
theorem ccC_nn {S : sS} {a t pl d al m : Int} : 0 ≤ ccC S a t pl d al m ∧ ccC S a t pl d al m ≤ 4449744 := by
  unfold ccC
  split
  · exact cpF_nn
  · omega
theorem ccT_0 {S : sS} {a t pl d al : Int} : ccT S a t pl d al 1 = 0 := by unfold ccT; rw [if_neg (by omega), if_neg (by omega), if_neg (by omega)]; omega
theorem ccT_s {S : sS} {a t pl d al v : Int} (h1 : 1 ≤ v ∧ v ≤ 3) (h2 : v ≤ t - a) : ccT S a t pl d al (v + 1) = ccT S a t pl d al v + ccC S a t pl d al v := by
  unfold ccT
  rcases (by omega : v = 1 ∨ v = 2 ∨ v = 3) with q | q | q <;> subst q
  · rw [if_pos (show (1 : Int) < 1 + 1 ∧ 1 ≤ t - a by omega), if_neg (show ¬ ((2 : Int) < 1 + 1 ∧ 2 ≤ t - a) by omega), if_neg (show ¬ ((3 : Int) < 1 + 1 ∧ 3 ≤ t - a) by omega), if_neg (show ¬ ((1 : Int) < 1 ∧ 1 ≤ t - a) by omega), if_neg (show ¬ ((2 : Int) < 1 ∧ 2 ≤ t - a) by omega), if_neg (show ¬ ((3 : Int) < 1 ∧ 3 ≤ t - a) by omega)]
    omega
  · rw [if_pos (show (1 : Int) < 2 + 1 ∧ 1 ≤ t - a by omega), if_pos (show (2 : Int) < 2 + 1 ∧ 2 ≤ t - a by omega), if_neg (show ¬ ((3 : Int) < 2 + 1 ∧ 3 ≤ t - a) by omega), if_pos (show (1 : Int) < 2 ∧ 1 ≤ t - a by omega), if_neg (show ¬ ((2 : Int) < 2 ∧ 2 ≤ t - a) by omega), if_neg (show ¬ ((3 : Int) < 2 ∧ 3 ≤ t - a) by omega)]
    omega
  · rw [if_pos (show (1 : Int) < 3 + 1 ∧ 1 ≤ t - a by omega), if_pos (show (2 : Int) < 3 + 1 ∧ 2 ≤ t - a by omega), if_pos (show (3 : Int) < 3 + 1 ∧ 3 ≤ t - a by omega), if_pos (show (1 : Int) < 3 ∧ 1 ≤ t - a by omega), if_pos (show (2 : Int) < 3 ∧ 2 ≤ t - a by omega), if_neg (show ¬ ((3 : Int) < 3 ∧ 3 ≤ t - a) by omega)]
    omega
theorem ccT_e {S : sS} {a t pl d al v : Int} (h1 : 1 ≤ v) (hv : 3 < v ∨ t - a < v) : ccT S a t pl d al v = ccT S a t pl d al 4 := by
  unfold ccT
  have c : ∀ i : Int, 1 ≤ i → i ≤ 3 → ((i < v ∧ i ≤ t - a) ↔ (i < 4 ∧ i ≤ t - a)) := fun i x b => ⟨fun q => ⟨by omega, q.2⟩, fun q => ⟨by omega, q.2⟩⟩
  simp only [c 1 (by omega) (by omega), c 2 (by omega) (by omega), c 3 (by omega) (by omega)]
theorem ccT_nn {S : sS} {a t pl d al v : Int} : 0 ≤ ccT S a t pl d al v ∧ ccT S a t pl d al v ≤ 13349232 := by
  unfold ccT
  have u1 := ccC_nn (S := S) (a := a) (t := t) (pl := pl) (d := d) (al := al) (m := 1)
  have u2 := ccC_nn (S := S) (a := a) (t := t) (pl := pl) (d := d) (al := al) (m := 2)
  have u3 := ccC_nn (S := S) (a := a) (t := t) (pl := pl) (d := d) (al := al) (m := 3)
  split <;> split <;> split <;> omega
/-- what is counted so far, and the last that was found -/
def KCS (S U : sS) (a t pl d al v z : Int) : Prop := z = ccT S a t pl d al v ∧ (0 < z → ∃ m : Int, (1 ≤ m ∧ m < v ∧ m ≤ t - a) ∧ 0 < ccC S a t pl d al m ∧ (∀ i : Int, m < i → i < v → i ≤ t - a → ccC S a t pl d al i = 0) ∧ Xi U 895 12 = ckC S t pl m ∧ Xi U 895 13 = t - m)
theorem kcs_0 {S U : sS} {a t pl d al : Int} : KCS S U a t pl d al 1 0 := ⟨ccT_0.symm, fun q => by omega⟩
theorem kcs_n {S U V : sS} {a t pl d al v z : Int} (h : KCS S U a t pl d al v z) (hv : 1 ≤ v ∧ v ≤ 3) (hn : v ≤ t - a) (q : ccC S a t pl d al v = 0) (e1 : Xi V 895 12 = Xi U 895 12) (e2 : Xi V 895 13 = Xi U 895 13) : KCS S V a t pl d al (v + 1) z := by
  obtain ⟨h1, h2⟩ := h
  refine ⟨by rw [ccT_s hv hn]; omega, fun w => ?_⟩
  obtain ⟨m, a1, a2, a3, a4, a5⟩ := h2 w
  refine ⟨m, ⟨a1.1, by omega, a1.2.2⟩, a2, fun i x y u => ?_, e1.trans a4, e2.trans a5⟩
  by_cases c : i = v
  · rw [c]; exact q
  · exact a3 i x (by omega) u
theorem kcs_y {S U V : sS} {a t pl d al v z : Int} (h : KCS S U a t pl d al v z) (hv : 1 ≤ v ∧ v ≤ 3) (hn : v ≤ t - a) (q : 0 < ccC S a t pl d al v) (e1 : Xi V 895 12 = ckC S t pl v) (e2 : Xi V 895 13 = t - v) : KCS S V a t pl d al (v + 1) (z + ccC S a t pl d al v) := by
  refine ⟨by rw [ccT_s hv hn, h.1], fun _ => ⟨v, ⟨hv.1, by omega, hn⟩, q, fun i x y _ => by omega, e1, e2⟩⟩
theorem ccc_y {S : sS} {a t pl d al m : Int} (h : cokC S t pl al m) : ccC S a t pl d al m = cpF S (ckC S t pl m) a (t - m) d := by unfold ccC; rw [if_pos h]
theorem ccc_n {S : sS} {a t pl d al m : Int} (h : ¬ cokC S t pl al m) : ccC S a t pl d al m = 0 := by unfold ccC; rw [if_neg h]

def md_me_readAdjective__p : List rec := [(895, 896, 8, 9), (895, 896, 9, 10)]
abbrev Q_me_readAdjective__p (S : sS) (kind : Int) (from_ : Int) (to : Int) (vals : Int) (dfd : Int) : pst := fun r S1 => RI S1 ∧ FR md_me_readAdjective__p S S1 ∧ (∃ z : Int, r = some (iv z) ∧ (-2147483648 ≤ z ∧ z ≤ 2147483647) ∧ (z = raF S kind from_ to vals dfd) ∧ (Xi S1 895 8 = mnV S from_ to % 256) ∧ (Xi S1 895 9 = rlF S kind from_ to vals))
set_option maxRecDepth 100000 in
theorem t_me_readAdjective__p {S : sS} (hH : RI S) (kind : Int) (from_ : Int) (to : Int) (vals : Int) (dfd : Int) (hkind : -2147483648 ≤ kind ∧ kind ≤ 2147483647) (hfrom_ : -1 ≤ from_ ∧ from_ ≤ 6000) (hto : -1 ≤ to ∧ to ≤ 6000) (hvals : 0 ≤ vals ∧ vals ≤ 1) (hdfd : 0 ≤ dfd ∧ dfd ≤ 1) (h13 : 0 ≤ Xi S 1 3 ∧ Xi S 1 3 ≤ 200) (hCE : CEN S) (d : Nat) : Mp lay0 (d + 2) m_me_readAdjective [.ref 895, iv kind, iv from_, iv to, iv vals, iv dfd] S (Q_me_readAdjective__p S kind from_ to vals dfd) := by
  refine Mp_R rfl rfl (fun fu => ?_)
  have hF : FR md_me_readAdjective__p S S := FR.rf
  have w1 : -2147483648 ≤ Xi S 1 3 ∧ Xi S 1 3 ≤ 2147483647 := Xi_rgI
  have w2 : -2147483648 ≤ Xi S 895 8 ∧ Xi S 895 8 ≤ 2147483647 := Xi_rgI
  have w3 : -2147483648 ≤ Xi S 895 9 ∧ Xi S 895 9 ≤ 2147483647 := Xi_rgI
  have C124 : ∀ (n124 : Nat) (_ : n124 ≤ fu) (T1 : sS) (_ : RI T1) (_ : FR md_me_readAdjective__p S T1) (v7 : Int) (v8 : Int) (v9 : Int), (0 ≤ v7 ∧ v7 ≤ 12) → (-2147483648 ≤ v8 ∧ v8 ≤ 2147483647) → (0 ≤ v9 ∧ v9 ≤ 12) → (0 ≤ v7 ∧ v7 ≤ v9) → (0 ≤ v9 ∧ v9 ≤ 12) → (Xi T1 895 8 = mnV S from_ to % 256) → (raF S kind from_ to vals dfd = rvn S v8 (Xi S 8 (mnV S from_ to % 256).toNat) (12 - v9).toNat v9 v7) → (rlF S kind from_ to vals = rln S v8 (Xi S 8 (mnV S from_ to % 256).toNat) (12 - v9).toNat v9 (Xi T1 895 9)) → Pl n124 lay0 (d + 1) m_me_readAdjective 124 [(0, .ref 895), (7, iv v7), (8, iv v8), (9, iv v9)] [] T1 (Q_me_readAdjective__p S kind from_ to vals dfd) := by
    intro n124
    induction n124 with
    | zero => intros; exact Pl_0
    | succ n124 ih124 =>
      intro hm124 T1 hHT1 hFT1 v7 v8 v9 w4 w5 w6 w7 w8 hmt hq124 hl124
      have w9 : Xi T1 1 3 = Xi S 1 3 := hFT1.x _ _ rfl
      have w10 : -2147483648 ≤ Xi T1 895 8 ∧ Xi T1 895 8 ≤ 2147483647 := Xi_rgI
      have w11 : -2147483648 ≤ Xi T1 895 9 ∧ Xi T1 895 9 ≤ 2147483647 := Xi_rgI
      refine ys_iload rfl rfl ?_
      refine y_bipush rfl rfl ?_
      refine y_icmp_ge rfl rfl (by unfold rg; omega) (by unfold rg; omega) (fun w12 => ?_) (fun w13 => ?_)
      · refine y_iload rfl rfl ?_
        refine y_ireturn rfl rfl ?_
        exact ⟨hHT1, hFT1, _, rfl, ⟨by omega, by omega⟩, (by first | (have t := hq124; exact (hq124.trans (rvn_e (by omega))).symm) | (have t := K86; exact (ra_1 hmv (by omega) hisk (by omega)).symm) | (have t := K59; exact (ra_2 hmv (by omega) hisk (by omega)).symm) | exact (ra_0 hmv (by omega) (by omega)).symm), (by first | (have t := hmt; exact hmt) | (rw [hmv]; omega)), (by first | (have t := hl124; exact (hl124.trans (rln_e (by omega))).symm) | exact (by assumption : Xi T1 895 9 = -1).trans (rl_0 hmv (by omega)))⟩
      · refine y_iload rfl rfl ?_
        refine y_iload rfl rfl ?_
        refine y_ishrF rfl ?_
        have w14 : -2147483648 ≤ (ishrF v8 v9) ∧ (ishrF v8 v9) ≤ 2147483647 := ishrF_rg
        refine y_iconst rfl ?_
        refine y_iandF rfl ?_
        have w15 : 0 ≤ (iandF (ishrF v8 v9) 1) ∧ (iandF (ishrF v8 v9) 1) ≤ 1 := iandF_le (by omega) (by unfold rg; omega)
        refine y_iconst rfl ?_
        refine y_icmp_ne rfl rfl (by unfold rg; omega) (by unfold rg; omega) (fun w16 => ?_) (fun w17 => ?_)
        · refine y_iinc rfl rfl rfl rfl ?_
          have G176 : Hid ((raF S kind from_ to vals dfd = rvn S v8 (Xi S 8 (mnV S from_ to % 256).toNat) (12 - (v9 + 1)).toNat (v9 + 1) v7) ∧ rlF S kind from_ to vals = rln S v8 (Xi S 8 (mnV S from_ to % 256).toNat) (12 - (v9 + 1)).toNat (v9 + 1) (Xi T1 895 9)) := by first | (have t := K170; exact ⟨hq124.trans (rvn_y (by omega) y170), by rw [l170]; exact hl124.trans (rln_y (by omega) y170)⟩) | exact ⟨hq124.trans (rvn_n (by omega) (fun q => by omega)), hl124.trans (rln_n (by omega) (fun q => by omega))⟩
          refine y_goto rfl rfl ?_
          exact Pl_weak (ih124 (by omega) T1 hHT1 hFT1 (v7) (v8) ((v9 + 1)) (by omega) (by omega) (by omega) (by omega) (by omega) (by first | (rw [hmv]; omega) | omega) (by first | exact G176.o.1 | exact ra_v hmv hpps (by omega) (by omega)) (by first | exact G176.o.2 | (rw [show Xi T1 895 9 = -1 by omega]; exact rl_v hmv hpps (by omega) (by omega)))) (by omega) (And.intro rfl (And.intro rfl (And.intro rfl (And.intro rfl (True.intro)))))
        · refine y_aload_n rfl rfl ?_
          refine y_gfr rfl rfl rfl rfl rfl (hHT1.r 895 1 1 rfl) ?_
          refine y_gfr rfl rfl rfl rfl rfl (hHT1.r 1 8 9 rfl) ?_
          refine y_iload rfl rfl ?_
          refine y_ialoadP (n := 12) rfl rfl (by unfold rg; omega) (fun w18 w19 => ?_)
          have w20 : -2147483648 ≤ (Xi T1 9 ((v9).toNat)) ∧ (Xi T1 9 ((v9).toNat)) ≤ 2147483647 := Xi_rgI
          have h9 : (Xi T1 9 ((v9).toNat)) = Xi S 9 (v9).toNat := (hFT1.cx 9 rfl _).1
          refine y_aload_n rfl rfl ?_
          refine y_gfr rfl rfl rfl rfl rfl (hHT1.r 895 1 1 rfl) ?_
          refine y_gfr rfl rfl rfl rfl rfl (hHT1.r 1 7 8 rfl) ?_
          refine y_aload_n rfl rfl ?_
          refine y_gfi rfl rfl rfl rfl rfl ?_
          refine y_ialoadP (n := 64) rfl rfl (by unfold rg; omega) (fun w21 w22 => ?_)
          have w23 : -2147483648 ≤ (Xi T1 8 (((Xi T1 895 8)).toNat)) ∧ (Xi T1 8 (((Xi T1 895 8)).toNat)) ≤ 2147483647 := Xi_rgI
          have h8 : (Xi T1 8 (((Xi T1 895 8)).toNat)) = Xi S 8 (mnV S from_ to % 256).toNat := by rw [(hFT1.cx 8 rfl _).1]; exact congrArg (fun t : Int => Xi S 8 t.toNat) hmt
          refine y_icmp_ne rfl rfl (by unfold rg; omega) (by unfold rg; omega) (fun w24 => ?_) (fun w25 => ?_)
          · refine y_iinc rfl rfl rfl rfl ?_
            have G176 : Hid ((raF S kind from_ to vals dfd = rvn S v8 (Xi S 8 (mnV S from_ to % 256).toNat) (12 - (v9 + 1)).toNat (v9 + 1) v7) ∧ rlF S kind from_ to vals = rln S v8 (Xi S 8 (mnV S from_ to % 256).toNat) (12 - (v9 + 1)).toNat (v9 + 1) (Xi T1 895 9)) := by first | (have t := K170; exact ⟨hq124.trans (rvn_y (by omega) y170), by rw [l170]; exact hl124.trans (rln_y (by omega) y170)⟩) | exact ⟨hq124.trans (rvn_n (by omega) (fun q => by omega)), hl124.trans (rln_n (by omega) (fun q => by omega))⟩
            refine y_goto rfl rfl ?_
            exact Pl_weak (ih124 (by omega) T1 hHT1 hFT1 (v7) (v8) ((v9 + 1)) (by omega) (by omega) (by omega) (by omega) (by omega) (by first | (rw [hmv]; omega) | omega) (by first | exact G176.o.1 | exact ra_v hmv hpps (by omega) (by omega)) (by first | exact G176.o.2 | (rw [show Xi T1 895 9 = -1 by omega]; exact rl_v hmv hpps (by omega) (by omega)))) (by omega) (And.intro rfl (And.intro rfl (And.intro rfl (And.intro rfl (True.intro)))))
          · refine y_aload_n rfl rfl ?_
            refine y_iload rfl rfl ?_
            refine y_pfi rfl rfl rfl rfl ?_
            obtain ⟨U2, eU2⟩ : ∃ T : sS, T = uI T1 895 9 (Int32.ofInt v9) := ⟨_, rfl⟩
            rw [← eU2]
            have hHU2 : RI U2 := by rw [eU2]; exact RI_w hHT1
            have hFU2 : FR md_me_readAdjective__p S U2 := by rw [eU2]; exact FR.wI hFT1 (mdf_i (r := (895, 896, 9, 10)) (List.mem_of_getElem? (i := 1) rfl) (inR_i (by omega) (by omega) (by omega) (by omega)))
            have w26 : Xi U2 895 9 = v9 := by rw [eU2]; exact Xi_same (by unfold rg; omega)
            have K170 : True := trivial
            have l170 : Xi U2 895 9 = v9 := by rw [eU2]; exact Xi_same (by unfold rg; omega)
            have y170 : iandF (ishrF v8 v9) 1 = 1 ∧ Xi S 9 v9.toNat = Xi S 8 (mnV S from_ to % 256).toNat := ⟨by omega, by omega⟩
            refine y_iinc rfl rfl rfl rfl ?_
            refine y_iinc rfl rfl rfl rfl ?_
            have G176 : Hid ((raF S kind from_ to vals dfd = rvn S v8 (Xi S 8 (mnV S from_ to % 256).toNat) (12 - (v9 + 1)).toNat (v9 + 1) (v7 + 1)) ∧ rlF S kind from_ to vals = rln S v8 (Xi S 8 (mnV S from_ to % 256).toNat) (12 - (v9 + 1)).toNat (v9 + 1) (Xi U2 895 9)) := by first | (have t := K170; exact ⟨hq124.trans (rvn_y (by omega) y170), by rw [l170]; exact hl124.trans (rln_y (by omega) y170)⟩) | exact ⟨hq124.trans (rvn_n (by omega) (fun q => by omega)), hl124.trans (rln_n (by omega) (fun q => by omega))⟩
            refine y_goto rfl rfl ?_
            have w27 : Xi U2 895 8 = Xi T1 895 8 := (show Xi U2 895 8 = Xi T1 895 8 from by rw [eU2]; exact Xi_ne (by omega))
            exact Pl_weak (ih124 (by omega) U2 hHU2 hFU2 ((v7 + 1)) (v8) ((v9 + 1)) (by omega) (by omega) (by omega) (by omega) (by omega) (by first | (rw [hmv]; omega) | omega) (by first | exact G176.o.1 | exact ra_v hmv hpps (by omega) (by omega)) (by first | exact G176.o.2 | (rw [show Xi U2 895 9 = -1 by omega]; exact rl_v hmv hpps (by omega) (by omega)))) (by omega) (And.intro rfl (And.intro rfl (And.intro rfl (And.intro rfl (True.intro)))))
  refine y_aload_n rfl rfl ?_
  refine y_gfr rfl rfl rfl rfl rfl (hH.r 895 1 1 rfl) ?_
  refine y_aload_n rfl rfl ?_
  refine y_gfr rfl rfl rfl rfl rfl (hH.r 895 0 876 rfl) ?_
  refine y_gfr rfl rfl rfl rfl rfl (hH.r 876 2 879 rfl) ?_
  refine y_iload_n rfl rfl ?_
  refine y_iload_n rfl rfl ?_
  refine y_callV rfl rfl rfl (t_vo_meaning__p hH 879 5130 from_ to rfl ⟨by omega, by omega⟩ ⟨by omega, by omega⟩ ⟨by omega, by omega⟩ (by first | assumption | omega) (by first | assumption | exact (CEN_FR hF rfl rfl (by assumption : CEN S))) _) ?_
  rintro _ _ ⟨rfl, z28, rfl, w28, f13, n13⟩
  show Pl _ _ _ _ _ _ [iv z28] _ _
  have hmv : mnV S from_ to = z28 := mnV_of f13 n13
  clear f13 n13
  have g13 : Hid (_ ∨ _) := mn_rg (a := from_) (b := to) hCE
  refine y_istore rfl rfl rfl ?_
  refine y_aload_n rfl rfl ?_
  refine y_iload rfl rfl ?_
  refine y_sipush rfl rfl ?_
  refine y_iand255 rfl (by unfold rg; omega) ?_
  refine y_pfi rfl rfl rfl rfl ?_
  obtain ⟨U3, eU3⟩ : ∃ T : sS, T = uI S 895 8 (Int32.ofInt (z28 % 256)) := ⟨_, rfl⟩
  rw [← eU3]
  have hHU3 : RI U3 := by rw [eU3]; exact RI_w hH
  have hFU3 : FR md_me_readAdjective__p S U3 := by rw [eU3]; exact FR.wI hF (mdf_i (r := (895, 896, 8, 9)) (List.mem_of_getElem? (i := 0) rfl) (inR_i (by omega) (by omega) (by omega) (by omega)))
  have w30 : Xi U3 895 8 = (z28 % 256) := by rw [eU3]; exact Xi_same (by unfold rg; omega)
  have m25 : Xi U3 895 8 = z28 % 256 := by rw [eU3]; exact Xi_same (by unfold rg; omega)
  refine y_aload_n rfl rfl ?_
  refine y_iconst rfl ?_
  refine y_pfi rfl rfl rfl rfl ?_
  obtain ⟨U4, eU4⟩ : ∃ T : sS, T = uI U3 895 9 (Int32.ofInt (-1)) := ⟨_, rfl⟩
  rw [← eU4]
  have hHU4 : RI U4 := by rw [eU4]; exact RI_w hHU3
  have hFU4 : FR md_me_readAdjective__p S U4 := by rw [eU4]; exact FR.wI hFU3 (mdf_i (r := (895, 896, 9, 10)) (List.mem_of_getElem? (i := 1) rfl) (inR_i (by omega) (by omega) (by omega) (by omega)))
  have w31 : Xi U4 895 9 = (-1) := by rw [eU4]; exact Xi_same (by unfold rg; omega)
  have w30 : Xi U4 895 9 = -1 := by rw [eU4]; exact Xi_same (by unfold rg; omega)
  have m30 : Xi U4 895 8 = z28 % 256 := by rw [eU4, Xi_ne (by omega)]; exact m25
  refine y_iload rfl rfl ?_
  refine y_bipush rfl rfl ?_
  refine y_ishr8 rfl (by unfold rg; omega) ?_
  refine y_iconst rfl ?_
  refine y_icmp_ne rfl rfl (by unfold rg; omega) (by unfold rg; omega) (fun w33 => ?_) (fun w34 => ?_)
  · refine y_iload rfl rfl ?_
    refine y_bipush rfl rfl ?_
    refine y_ishr8 rfl (by unfold rg; omega) ?_
    refine y_iconst rfl ?_
    refine y_icmp_ne rfl rfl (by unfold rg; omega) (by unfold rg; omega) (fun w36 => ?_) (fun w37 => ?_)
    · refine y_iconst rfl ?_
      refine y_ireturn rfl rfl ?_
      have w38 : Xi U4 895 8 = Xi U3 895 8 := (show Xi U4 895 8 = Xi U3 895 8 from by rw [eU4]; exact Xi_ne (by omega))
      exact ⟨hHU4, hFU4, _, rfl, ⟨by omega, by omega⟩, (by first | (have t := hq124; exact (hq124.trans (rvn_e (by omega))).symm) | (have t := K86; exact (ra_1 hmv (by omega) hisk (by omega)).symm) | (have t := K59; exact (ra_2 hmv (by omega) hisk (by omega)).symm) | exact (ra_0 hmv (by omega) (by omega)).symm), (by first | (have t := hmt; exact hmt) | (rw [hmv]; omega)), (by first | (have t := hl124; exact (hl124.trans (rln_e (by omega))).symm) | exact (by assumption : Xi U4 895 9 = -1).trans (rl_0 hmv (by omega)))⟩
    · refine y_iload rfl rfl ?_
      refine y_if_ne rfl rfl (by unfold rg; omega) (fun w39 => ?_) (fun w40 => ?_)
      · refine y_iconst rfl ?_
        refine y_istore rfl rfl rfl ?_
        refine y_aload_n rfl rfl ?_
        refine y_gfr rfl rfl rfl rfl rfl (hHU4.r 895 1 1 rfl) ?_
        refine y_iload_n rfl rfl ?_
        refine y_callV rfl rfl rfl (t_vo_propertiesOf__p hHU4 kind ⟨by omega, by omega⟩ _) ?_
        rintro _ _ ⟨rfl, z42, rfl, w42, q116⟩
        show Pl _ _ _ _ _ _ [iv z42] _ _
        have hpps : z42 = pps S kind := ra_p hFU4 rfl q116
        refine y_istore rfl rfl rfl ?_
        refine y_iconst rfl ?_
        refine y_istore rfl rfl rfl ?_
        have w43 : Xi U4 895 8 = Xi U3 895 8 := (show Xi U4 895 8 = Xi U3 895 8 from by rw [eU4]; exact Xi_ne (by omega))
        exact Pl_weak (C124 fu (by omega) U4 hHU4 hFU4 (0) (z42) (0) (by omega) (by omega) (by omega) (by omega) (by omega) (by first | (rw [hmv]; omega) | omega) (by first | exact G176.o.1 | exact ra_v hmv hpps (by omega) (by omega)) (by first | exact G176.o.2 | (rw [show Xi U4 895 9 = -1 by omega]; exact rl_v hmv hpps (by omega) (by omega)))) (by omega) (And.intro rfl (And.intro rfl (And.intro rfl (And.intro rfl (True.intro)))))
      · refine y_iconst rfl ?_
        refine y_ireturn rfl rfl ?_
        have w44 : Xi U4 895 8 = Xi U3 895 8 := (show Xi U4 895 8 = Xi U3 895 8 from by rw [eU4]; exact Xi_ne (by omega))
        exact ⟨hHU4, hFU4, _, rfl, ⟨by omega, by omega⟩, (by first | (have t := hq124; exact (hq124.trans (rvn_e (by omega))).symm) | (have t := K86; exact (ra_1 hmv (by omega) hisk (by omega)).symm) | (have t := K59; exact (ra_2 hmv (by omega) hisk (by omega)).symm) | exact (ra_0 hmv (by omega) (by omega)).symm), (by first | (have t := hmt; exact hmt) | (rw [hmv]; omega)), (by first | (have t := hl124; exact (hl124.trans (rln_e (by omega))).symm) | exact (by assumption : Xi U4 895 9 = -1).trans (rl_0 hmv (by omega)))⟩
  · refine y_aload_n rfl rfl ?_
    refine y_gfr rfl rfl rfl rfl rfl (hHU4.r 895 1 1 rfl) ?_
    refine y_iload_n rfl rfl ?_
    refine y_aload_n rfl rfl ?_
    refine y_gfr rfl rfl rfl rfl rfl (hHU4.r 895 1 1 rfl) ?_
    refine y_gfr rfl rfl rfl rfl rfl (hHU4.r 1 9 10 rfl) ?_
    refine y_aload_n rfl rfl ?_
    refine y_gfi rfl rfl rfl rfl rfl ?_
    have w45 : (Xi U4 895 8) = (Xi U3 895 8) := (show Xi U4 895 8 = Xi U3 895 8 from by rw [eU4]; exact Xi_ne (by omega))
    rw [w45]
    refine y_ialoadP (n := 24) rfl rfl (by unfold rg; omega) (fun w46 w47 => ?_)
    have w48 : -2147483648 ≤ (Xi U4 10 (((Xi U3 895 8)).toNat)) ∧ (Xi U4 10 (((Xi U3 895 8)).toNat)) ≤ 2147483647 := Xi_rgI
    have w49 : Xi U4 895 8 = Xi U3 895 8 := (show Xi U4 895 8 = Xi U3 895 8 from by rw [eU4]; exact Xi_ne (by omega))
    refine y_callV rfl rfl rfl (t_vo_isKind__p hHU4 kind (Xi U4 10 (((Xi U3 895 8)).toNat)) ⟨by omega, by omega⟩ ⟨by omega, by omega⟩ _) ?_
    rintro _ _ ⟨rfl, z50, rfl, w50, q59⟩
    show Pl _ _ _ _ _ _ [iv z50] _ _
    have K59 : True := trivial
    have hisk : z50 = isK S kind (Xi S 10 (z28 % 256).toNat) := ra_k hFU4 rfl q59 (by omega)
    refine y_if_eq rfl rfl (by unfold rg; omega) (fun w51 => ?_) (fun w52 => ?_)
    · refine y_iconst rfl ?_
      refine y_ireturn rfl rfl ?_
      exact ⟨hHU4, hFU4, _, rfl, ⟨by omega, by omega⟩, (by first | (have t := hq124; exact (hq124.trans (rvn_e (by omega))).symm) | (have t := K86; exact (ra_1 hmv (by omega) hisk (by omega)).symm) | (have t := K59; exact (ra_2 hmv (by omega) hisk (by omega)).symm) | exact (ra_0 hmv (by omega) (by omega)).symm), (by first | (have t := hmt; exact hmt) | (rw [hmv]; omega)), (by first | (have t := hl124; exact (hl124.trans (rln_e (by omega))).symm) | exact (by assumption : Xi U4 895 9 = -1).trans (rl_0 hmv (by omega)))⟩
    · refine y_iload rfl rfl ?_
      refine y_if_ne rfl rfl (by unfold rg; omega) (fun w54 => ?_) (fun w55 => ?_)
      · refine y_iconst rfl ?_
        have K86 : True := trivial
        refine y_goto rfl rfl ?_
        refine y_ireturn rfl rfl ?_
        exact ⟨hHU4, hFU4, _, rfl, ⟨by omega, by omega⟩, (by first | (have t := hq124; exact (hq124.trans (rvn_e (by omega))).symm) | (have t := K86; exact (ra_1 hmv (by omega) hisk (by omega)).symm) | (have t := K59; exact (ra_2 hmv (by omega) hisk (by omega)).symm) | exact (ra_0 hmv (by omega) (by omega)).symm), (by first | (have t := hmt; exact hmt) | (rw [hmv]; omega)), (by first | (have t := hl124; exact (hl124.trans (rln_e (by omega))).symm) | exact (by assumption : Xi U4 895 9 = -1).trans (rl_0 hmv (by omega)))⟩
      · refine y_aload_n rfl rfl ?_
        refine y_gfr rfl rfl rfl rfl rfl (hHU4.r 895 1 1 rfl) ?_
        refine y_gfr rfl rfl rfl rfl rfl (hHU4.r 1 10 11 rfl) ?_
        refine y_aload_n rfl rfl ?_
        refine y_gfi rfl rfl rfl rfl rfl ?_
        have w57 : (Xi U4 895 8) = (Xi U3 895 8) := (show Xi U4 895 8 = Xi U3 895 8 from by rw [eU4]; exact Xi_ne (by omega))
        rw [w57]
        refine y_ialoadP (n := 24) rfl rfl (by unfold rg; omega) (fun w58 w59 => ?_)
        have w60 : -2147483648 ≤ (Xi U4 11 (((Xi U3 895 8)).toNat)) ∧ (Xi U4 11 (((Xi U3 895 8)).toNat)) ≤ 2147483647 := Xi_rgI
        have h11 : (Xi U4 11 (((Xi U3 895 8)).toNat)) = Xi S 11 (z28 % 256).toNat := by rw [(hFU4.cx 11 rfl _).1]; exact congrArg (fun t : Int => Xi S 11 t.toNat) (by omega)
        refine y_iconst rfl ?_
        refine y_icmp_eq rfl rfl (by unfold rg; omega) (by unfold rg; omega) (fun w61 => ?_) (fun w62 => ?_)
        · refine y_iconst rfl ?_
          refine y_ireturn rfl rfl ?_
          exact ⟨hHU4, hFU4, _, rfl, ⟨by omega, by omega⟩, (by first | (have t := hq124; exact (hq124.trans (rvn_e (by omega))).symm) | (have t := K86; exact (ra_1 hmv (by omega) hisk (by omega)).symm) | (have t := K59; exact (ra_2 hmv (by omega) hisk (by omega)).symm) | exact (ra_0 hmv (by omega) (by omega)).symm), (by first | (have t := hmt; exact hmt) | (rw [hmv]; omega)), (by first | (have t := hl124; exact (hl124.trans (rln_e (by omega))).symm) | exact (by assumption : Xi U4 895 9 = -1).trans (rl_0 hmv (by omega)))⟩
        · refine y_iconst rfl ?_
          have K86 : True := trivial
          refine y_goto rfl rfl ?_
          refine y_ireturn rfl rfl ?_
          exact ⟨hHU4, hFU4, _, rfl, ⟨by omega, by omega⟩, (by first | (have t := hq124; exact (hq124.trans (rvn_e (by omega))).symm) | (have t := K86; exact (ra_1 hmv (by omega) hisk (by omega)).symm) | (have t := K59; exact (ra_2 hmv (by omega) hisk (by omega)).symm) | exact (ra_0 hmv (by omega) (by omega)).symm), (by first | (have t := hmt; exact hmt) | (rw [hmv]; omega)), (by first | (have t := hl124; exact (hl124.trans (rln_e (by omega))).symm) | exact (by assumption : Xi U4 895 9 = -1).trans (rl_0 hmv (by omega)))⟩
def md_me_countParts__p : List rec := [(895, 896, 8, 9), (895, 896, 9, 10), (898, 899, 0, 100000)]
abbrev Q_me_countParts__p (S : sS) (kind : Int) (from_ : Int) (to : Int) (dfd : Int) : pst := fun r S1 => RI S1 ∧ FR md_me_countParts__p S S1 ∧ (∃ z : Int, r = some (iv z) ∧ (-2147483648 ≤ z ∧ z ≤ 2147483647) ∧ (z = cpF S kind from_ to dfd) ∧ (0 ≤ to - from_ → to - from_ ≤ 6 → PRT S1 (fA S kind from_ dfd) (to - from_) (-1)))
set_option maxRecDepth 100000 in
theorem t_me_countParts__p {S : sS} (hH : RI S) (kind : Int) (from_ : Int) (to : Int) (dfd : Int) (hkind : -2147483648 ≤ kind ∧ kind ≤ 2147483647) (hfrom_ : -1 ≤ from_ ∧ from_ ≤ 5900) (hto : -1 ≤ to ∧ to ≤ 5900) (hdfd : 0 ≤ dfd ∧ dfd ≤ 1) (h13 : 0 ≤ Xi S 1 3 ∧ Xi S 1 3 ≤ 200) (hCE : CEN S) (d : Nat) : Mp lay0 (d + 3) m_me_countParts [.ref 895, iv kind, iv from_, iv to, iv dfd] S (Q_me_countParts__p S kind from_ to dfd) := by
  refine Mp_R rfl rfl (fun fu => ?_)
  have hF : FR md_me_countParts__p S S := FR.rf
  have w1 : -2147483648 ≤ Xi S 1 3 ∧ Xi S 1 3 ≤ 2147483647 := Xi_rgI
  have C33 : ∀ (n33 : Nat) (_ : n33 ≤ fu) (T1 : sS) (_ : RI T1) (_ : FR md_me_countParts__p S T1) (v5 : Int) (v6 : Int), (0 ≤ v5 ∧ v5 ≤ 6) → (-1 ≤ v6 ∧ v6 ≤ 5) → (v5 = to - from_) → (v6 < v5) → (PRT T1 (fA S kind from_ dfd) v5 v6) → Pl n33 lay0 (d + 2) m_me_countParts 33 [(0, .ref 895), (1, iv kind), (2, iv from_), (4, iv dfd), (5, iv v5), (6, iv v6)] [] T1 (Q_me_countParts__p S kind from_ to dfd) := by
    intro n33
    induction n33 with
    | zero => intros; exact Pl_0
    | succ n33 ih33 =>
      intro hm33 T1 hHT1 hFT1 v5 v6 w2 w3 hv5 w4 hp33
      have w5 : Xi T1 1 3 = Xi S 1 3 := hFT1.x _ _ rfl
      have w6 : Xi T1 5 3 = Xi S 5 3 := hFT1.x _ _ rfl
      have C49 : ∀ (n49 : Nat) (_ : n49 ≤ n33) (T2 : sS) (_ : RI T2) (_ : FR md_me_countParts__p S T2) (v5 : Int) (v6 : Int) (v7 : Int), (0 ≤ v5 ∧ v5 ≤ 6) → (0 ≤ v6 ∧ v6 ≤ 5) → (1 ≤ v7 ∧ v7 ≤ 4) → (v5 = to - from_) → (v6 < v5) → (PRT T2 (fA S kind from_ dfd) v5 v6) → (Xi T2 898 v6.toNat = csum (fA S kind from_ dfd) v5 (v5 - v6).toNat (v7 - 1).toNat) → Pl n49 lay0 (d + 2) m_me_countParts 49 [(0, .ref 895), (1, iv kind), (2, iv from_), (4, iv dfd), (5, iv v5), (6, iv v6), (7, iv v7)] [] T2 (Q_me_countParts__p S kind from_ to dfd) := by
        intro n49
        induction n49 with
        | zero => intros; exact Pl_0
        | succ n49 ih49 =>
          intro hm49 T2 hHT2 hFT2 v5 v6 v7 w7 w8 w9 hv49 w10 hp49 hs49
          have w11 : Xi T2 1 3 = Xi S 1 3 := hFT2.x _ _ rfl
          have w12 : Xi T2 5 3 = Xi S 5 3 := hFT2.x _ _ rfl
          have C118 : ∀  (T3 : sS) (_ : RI T3) (_ : FR md_me_countParts__p S T3) (v5 : Int) (v6 : Int) (v7 : Int), (0 ≤ v5 ∧ v5 ≤ 6) → (0 ≤ v6 ∧ v6 ≤ 5) → (1 ≤ v7 ∧ v7 ≤ 3) → (v5 = to - from_) → (v6 < v5) → (v6 + v7 ≤ v5) → (v7 ≤ 3) → (PRT T3 (fA S kind from_ dfd) v5 v6) → (Xi T3 898 v6.toNat = csum (fA S kind from_ dfd) v5 (v5 - v6).toNat v7.toNat) → Pl n49 lay0 (d + 2) m_me_countParts 118 [(0, .ref 895), (1, iv kind), (2, iv from_), (4, iv dfd), (5, iv v5), (6, iv v6), (7, iv v7)] [] T3 (Q_me_countParts__p S kind from_ to dfd) := by
            intro T3 hHT3 hFT3 v5 v6 v7 w13 w14 w15 hv118 w16 w17 w18 hp118 hs118
            have w19 : Xi T3 1 3 = Xi S 1 3 := hFT3.x _ _ rfl
            have w20 : Xi T3 5 3 = Xi S 5 3 := hFT3.x _ _ rfl
            refine y_iinc rfl rfl rfl rfl ?_
            refine y_goto rfl rfl ?_
            exact Pl_weak (ih49 (by omega) T3 hHT3 hFT3 (v5) (v6) ((v7 + 1)) (by omega) (by omega) (by omega) (by omega) (by omega) (by first | exact hp118 | exact PRT_w rfl (by omega) (by omega) hp33) (by first | (rw [show v7 + 1 - 1 = v7 by omega]; exact hs118) | exact (show Xi T3 898 v6.toNat = 0 by omega))) (by omega) (And.intro rfl (And.intro rfl (And.intro rfl (And.intro rfl (And.intro rfl (And.intro rfl (And.intro rfl (True.intro))))))))
          have C124 : ∀  (T4 : sS) (_ : RI T4) (_ : FR md_me_countParts__p S T4) (v5 : Int) (v6 : Int), (0 ≤ v5 ∧ v5 ≤ 6) → (0 ≤ v6 ∧ v6 ≤ 5) → (v5 = to - from_) → (v6 < v5) → (PRT T4 (fA S kind from_ dfd) v5 v6) → (Xi T4 898 v6.toNat = cpf (fA S kind from_ dfd) v5 (v5 - v6).toNat) → Pl n49 lay0 (d + 2) m_me_countParts 124 [(0, .ref 895), (1, iv kind), (2, iv from_), (4, iv dfd), (5, iv v5), (6, iv v6)] [] T4 (Q_me_countParts__p S kind from_ to dfd) := by
            intro T4 hHT4 hFT4 v5 v6 w21 w22 hv124 w23 hp124 hs124
            have w24 : Xi T4 1 3 = Xi S 1 3 := hFT4.x _ _ rfl
            have w25 : Xi T4 5 3 = Xi S 5 3 := hFT4.x _ _ rfl
            refine y_iinc rfl rfl rfl rfl ?_
            refine y_goto rfl rfl ?_
            exact Pl_weak (ih33 (by omega) T4 hHT4 hFT4 (v5) ((v6 + (-1))) (by omega) (by omega) (by omega) (by omega) (by first | exact PRT_0 rfl | exact PRT_s hp124 hs124)) (by omega) (And.intro rfl (And.intro rfl (And.intro rfl (And.intro rfl (And.intro rfl (And.intro rfl (True.intro)))))))
          refine ys_iload rfl rfl ?_
          refine y_iconst rfl ?_
          refine y_icmp_gt rfl rfl (by unfold rg; omega) (by unfold rg; omega) (fun w26 => ?_) (fun w27 => ?_)
          · exact Pl_weak (C124 T2 hHT2 hFT2 (v5) (v6) (by omega) (by omega) (by omega) (by omega) (by exact hp49) (by rw [hs49]; exact csum_end (by omega) (by omega) (by omega))) (by omega) (And.intro rfl (And.intro rfl (And.intro rfl (And.intro rfl (And.intro rfl (And.intro rfl (True.intro)))))))
          · refine y_iload rfl rfl ?_
            refine y_iload rfl rfl ?_
            refine y_iadd rfl ?_
            refine y_iload rfl rfl ?_
            refine y_icmp_gt rfl rfl (by unfold rg; omega) (by unfold rg; omega) (fun w28 => ?_) (fun w29 => ?_)
            · exact Pl_weak (C124 T2 hHT2 hFT2 (v5) (v6) (by omega) (by omega) (by omega) (by omega) (by exact hp49) (by rw [hs49]; exact csum_end (by omega) (by omega) (by omega))) (by omega) (And.intro rfl (And.intro rfl (And.intro rfl (And.intro rfl (And.intro rfl (And.intro rfl (True.intro)))))))
            · refine y_aload_n rfl rfl ?_
              refine y_gfr rfl rfl rfl rfl rfl (hHT2.r 895 17 898 rfl) ?_
              refine y_iload rfl rfl ?_
              refine y_iload rfl rfl ?_
              refine y_iadd rfl ?_
              refine y_ialoadP (n := 7) rfl rfl (by unfold rg; omega) (fun w30 w31 => ?_)
              have w32 : -2147483648 ≤ (Xi T2 898 (((v6 + v7)).toNat)) ∧ (Xi T2 898 (((v6 + v7)).toNat)) ≤ 2147483647 := Xi_rgI
              have hpn : (Xi T2 898 (((v6 + v7)).toNat)) = cpf (fA S kind from_ dfd) v5 (v5 - (v6 + v7)).toNat := hp49 (v6 + v7) (by omega) (by omega)
              have hpb := cpf_bb (f := fA S kind from_ dfd) (z := v5) (m := (v5 - (v6 + v7)).toNat) fA_b (by omega)
              have hsb := csum_bb (f := fA S kind from_ dfd) (z := v5) (m := (v5 - v6).toNat) fA_b (by omega) (v7 - 1).toNat
              refine y_if_le rfl rfl (by unfold rg; omega) (fun w33 => ?_) (fun w34 => ?_)
              · exact Pl_weak (C118 T2 hHT2 hFT2 (v5) (v6) (v7) (by omega) (by omega) (by omega) (by omega) (by omega) (by omega) (by omega) (by first | exact hp49 | exact PRT_w rfl (by omega) (by omega) hp5) (by first | (rw [csum_n (by omega) (by omega) (by omega) hpn (by omega)]; omega) | (rw [csum_y (by omega) (by omega) (by omega) hpn hra]; omega))) (by omega) (And.intro rfl (And.intro rfl (And.intro rfl (And.intro rfl (And.intro rfl (And.intro rfl (And.intro rfl (True.intro))))))))
              · refine y_aload_n rfl rfl ?_
                refine y_gfr rfl rfl rfl rfl rfl (hHT2.r 895 17 898 rfl) ?_
                refine y_iload rfl rfl ?_
                refine y_dup2 rfl rfl ?_
                refine y_ialoadP (n := 7) rfl rfl (by unfold rg; omega) (fun w35 w36 => ?_)
                have w37 : -2147483648 ≤ (Xi T2 898 ((v6).toNat)) ∧ (Xi T2 898 ((v6).toNat)) ≤ 2147483647 := Xi_rgI
                refine y_aload_n rfl rfl ?_
                refine y_gfr rfl rfl rfl rfl rfl (hHT2.r 895 17 898 rfl) ?_
                refine y_iload rfl rfl ?_
                refine y_iload rfl rfl ?_
                refine y_iadd rfl ?_
                refine y_ialoadP (n := 7) rfl rfl (by unfold rg; omega) (fun w38 w39 => ?_)
                refine y_aload_n rfl rfl ?_
                refine y_iload_n rfl rfl ?_
                refine y_iload_n rfl rfl ?_
                refine y_iload rfl rfl ?_
                refine y_iadd rfl ?_
                refine y_iload_n rfl rfl ?_
                refine y_iload rfl rfl ?_
                refine y_iadd rfl ?_
                refine y_iload rfl rfl ?_
                refine y_iadd rfl ?_
                refine y_iconst rfl ?_
                refine y_iload rfl rfl ?_
                refine y_callV rfl rfl rfl (t_me_readAdjective__p hHT2 kind (from_ + v6) ((from_ + v6) + v7) 1 dfd ⟨by omega, by omega⟩ ⟨by omega, by omega⟩ ⟨by omega, by omega⟩ ⟨by omega, by omega⟩ ⟨by omega, by omega⟩ (by first | assumption | omega) (by first | assumption | exact (CEN_FR hFT2 rfl rfl (by assumption : CEN S))) _) ?_
                rintro _ T5 ⟨hHT5, w41, z40, rfl, w40, v112, m112, p112⟩
                have hFT5 : FR md_me_countParts__p S T5 := FR.tr hFT2 w41 rfl
                show Pl _ _ _ _ _ _ [iv z40, iv (Xi T2 898 (((v6 + v7)).toNat)), iv (Xi T2 898 ((v6).toNat)), iv v6, .ref 898] _ _
                have hra : z40 = fA S kind from_ dfd v6 (v6 + v7) := ra_f v112 (by assumption : FR md_me_countParts__p S T2) rfl
                have hp5 : PRT T5 (fA S kind from_ dfd) v5 v6 := PRT_FR (by assumption : FR md_me_readAdjective__p T2 T5) rfl hp49
                have rb112 : 0 ≤ z40 ∧ z40 ≤ 12 := by rw [v112]; exact raF_b
                refine y_imul rfl ?_
                have w42 : 0 ≤ ((Xi T2 898 (((v6 + v7)).toNat)) * z40) ∧ ((Xi T2 898 (((v6 + v7)).toNat)) * z40) ≤ 4449744 * 12 := mulb ⟨by omega, by omega⟩ ⟨by omega, by omega⟩
                refine y_iadd rfl ?_
                refine y_iastoreP (n := 7) rfl rfl (by unfold rg; omega) (fun w43 w44 => ?_)
                obtain ⟨U6, eU6⟩ : ∃ T : sS, T = uI T5 898 ((v6).toNat) (Int32.ofInt ((Xi T2 898 ((v6).toNat)) + ((Xi T2 898 (((v6 + v7)).toNat)) * z40))) := ⟨_, rfl⟩
                rw [← eU6]
                have hHU6 : RI U6 := by rw [eU6]; exact RI_w hHT5
                have hFU6 : FR md_me_countParts__p S U6 := by rw [eU6]; exact FR.wI hFT5 (mdf_i (r := (898, 899, 0, 100000)) (List.mem_of_getElem? (i := 2) rfl) (inR_i (by omega) (by omega) (by omega) (by omega)))
                have w45 : Xi U6 898 ((v6).toNat) = ((Xi T2 898 ((v6).toNat)) + ((Xi T2 898 (((v6 + v7)).toNat)) * z40)) := by rw [eU6]; exact Xi_same (by unfold rg; omega)
                exact Pl_weak (C118 U6 hHU6 hFU6 (v5) (v6) (v7) (by omega) (by omega) (by omega) (by omega) (by omega) (by omega) (by omega) (by first | exact hp49 | exact PRT_w eU6 (by omega) (by omega) hp5) (by first | (rw [csum_n (by omega) (by omega) (by omega) hpn (by omega)]; omega) | (rw [csum_y (by omega) (by omega) (by omega) hpn hra]; omega))) (by omega) (And.intro rfl (And.intro rfl (And.intro rfl (And.intro rfl (And.intro rfl (And.intro rfl (And.intro rfl (True.intro))))))))
      refine ys_iload rfl rfl ?_
      refine y_if_lt rfl rfl (by unfold rg; omega) (fun w46 => ?_) (fun w47 => ?_)
      · refine y_aload_n rfl rfl ?_
        refine y_gfr rfl rfl rfl rfl rfl (hHT1.r 895 17 898 rfl) ?_
        refine y_iconst rfl ?_
        refine y_ialoadP (n := 7) rfl rfl (by unfold rg; omega) (fun w48 w49 => ?_)
        have w50 : -2147483648 ≤ (Xi T1 898 ((0 : Int).toNat)) ∧ (Xi T1 898 ((0 : Int).toNat)) ≤ 2147483647 := Xi_rgI
        have w51 : (Xi T1 898 ((0 : Int).toNat)) = Xi T1 898 0 := rfl
        have hz0 : (Xi T1 898 ((0 : Int).toNat)) = cpf (fA S kind from_ dfd) v5 v5.toNat := by have t := hp33 0 (by omega) (by omega); rw [show (v5 - 0).toNat = v5.toNat by omega] at t; exact t
        have hzb := cpf_bb (f := fA S kind from_ dfd) (z := v5) (m := v5.toNat) fA_b (by omega)
        refine y_ireturn rfl rfl ?_
        exact ⟨hHT1, hFT1, _, rfl, ⟨by omega, by omega⟩, (by first | exact cpF_0 (by omega) | exact cpF_of (by omega) (by omega) (by rw [← hv5]; exact hz0)), (by first | (intro a b; omega) | exact fun _ _ q a b => by rw [← hv5]; exact hp33 q (by omega) (by omega))⟩
      · refine y_aload_n rfl rfl ?_
        refine y_gfr rfl rfl rfl rfl rfl (hHT1.r 895 17 898 rfl) ?_
        refine y_iload rfl rfl ?_
        refine y_iconst rfl ?_
        refine y_iastoreP (n := 7) rfl rfl (by unfold rg; omega) (fun w52 w53 => ?_)
        obtain ⟨U7, eU7⟩ : ∃ T : sS, T = uI T1 898 ((v6).toNat) (Int32.ofInt 0) := ⟨_, rfl⟩
        rw [← eU7]
        have hHU7 : RI U7 := by rw [eU7]; exact RI_w hHT1
        have hFU7 : FR md_me_countParts__p S U7 := by rw [eU7]; exact FR.wI hFT1 (mdf_i (r := (898, 899, 0, 100000)) (List.mem_of_getElem? (i := 2) rfl) (inR_i (by omega) (by omega) (by omega) (by omega)))
        have w54 : Xi U7 898 ((v6).toNat) = 0 := by rw [eU7]; exact Xi_same (by unfold rg; omega)
        refine y_iconst rfl ?_
        refine y_istore rfl rfl rfl ?_
        exact Pl_weak (C49 n33 (by omega) U7 hHU7 hFU7 (v5) (v6) (1) (by omega) (by omega) (by omega) (by omega) (by omega) (by first | exact hp118 | exact PRT_w eU7 (by omega) (by omega) hp33) (by first | (rw [show v7 + 1 - 1 = v7 by omega]; exact hs118) | exact (show Xi U7 898 v6.toNat = 0 by omega))) (by omega) (And.intro rfl (And.intro rfl (And.intro rfl (And.intro rfl (And.intro rfl (And.intro rfl (And.intro rfl (True.intro))))))))
  refine y_iload_n rfl rfl ?_
  refine y_iload_n rfl rfl ?_
  refine y_isub rfl ?_
  refine y_istore rfl rfl rfl ?_
  refine y_iload rfl rfl ?_
  refine y_if_lt rfl rfl (by unfold rg; omega) (fun w55 => ?_) (fun w56 => ?_)
  · refine y_iconst rfl ?_
    refine y_ireturn rfl rfl ?_
    exact ⟨hH, hF, _, rfl, ⟨by omega, by omega⟩, (by first | exact cpF_0 (by omega) | exact cpF_of (by omega) (by omega) (by rw [← hv5]; exact hz0)), (by first | (intro a b; omega) | exact fun _ _ q a b => by rw [← hv5]; exact hp33 q (by omega) (by omega))⟩
  · refine y_iload rfl rfl ?_
    refine y_bipush rfl rfl ?_
    refine y_icmp_le rfl rfl (by unfold rg; omega) (by unfold rg; omega) (fun w57 => ?_) (fun w58 => ?_)
    · refine y_aload_n rfl rfl ?_
      refine y_gfr rfl rfl rfl rfl rfl (hH.r 895 17 898 rfl) ?_
      refine y_iload rfl rfl ?_
      refine y_iconst rfl ?_
      refine y_iastoreP (n := 7) rfl rfl (by unfold rg; omega) (fun w59 w60 => ?_)
      obtain ⟨U8, eU8⟩ : ∃ T : sS, T = uI S 898 (((to - from_)).toNat) (Int32.ofInt 1) := ⟨_, rfl⟩
      rw [← eU8]
      have hHU8 : RI U8 := by rw [eU8]; exact RI_w hH
      have hFU8 : FR md_me_countParts__p S U8 := by rw [eU8]; exact FR.wI hF (mdf_i (r := (898, 899, 0, 100000)) (List.mem_of_getElem? (i := 2) rfl) (inR_i (by omega) (by omega) (by omega) (by omega)))
      have w61 : Xi U8 898 (((to - from_)).toNat) = 1 := by rw [eU8]; exact Xi_same (by unfold rg; omega)
      refine y_iload rfl rfl ?_
      refine y_iconst rfl ?_
      refine y_isub rfl ?_
      refine y_istore rfl rfl rfl ?_
      exact Pl_weak (C33 fu (by omega) U8 hHU8 hFU8 ((to - from_)) (((to - from_) - 1)) (by omega) (by omega) (by omega) (by omega) (by first | exact PRT_0 eU8 | exact PRT_s hp124 hs124)) (by omega) (And.intro rfl (And.intro rfl (And.intro rfl (And.intro rfl (And.intro rfl (And.intro rfl (True.intro)))))))
    · refine y_iconst rfl ?_
      refine y_ireturn rfl rfl ?_
      exact ⟨hH, hF, _, rfl, ⟨by omega, by omega⟩, (by first | exact cpF_0 (by omega) | exact cpF_of (by omega) (by omega) (by rw [← hv5]; exact hz0)), (by first | (intro a b; omega) | exact fun _ _ q a b => by rw [← hv5]; exact hp33 q (by omega) (by omega))⟩
def md_me_countReadings__p : List rec := [(895, 896, 8, 9), (895, 896, 9, 10), (895, 896, 12, 13), (895, 896, 13, 14), (898, 899, 0, 100000)]
abbrev Q_me_countReadings__p (S : sS) (from_ : Int) (to : Int) (plur : Int) (dfd : Int) (least : Int) : pst := fun r S1 => RI S1 ∧ FR md_me_countReadings__p S S1 ∧ (∃ z : Int, r = some (iv z) ∧ (-2147483648 ≤ z ∧ z ≤ 2147483647) ∧ ((to - from_ ≤ 6 → KCS S S1 from_ to plur dfd least 4 z) ∧ (6 < to - from_ → z = 0)))
set_option maxRecDepth 100000 in
theorem t_me_countReadings__p {S : sS} (hH : RI S) (from_ : Int) (to : Int) (plur : Int) (dfd : Int) (least : Int) (hfrom_ : 0 ≤ from_ ∧ from_ ≤ 5140) (hto : 0 ≤ to ∧ to ≤ 5140) (hplur : 0 ≤ plur ∧ plur ≤ 1) (hdfd : 0 ≤ dfd ∧ dfd ≤ 1) (hleast : -1 ≤ least ∧ least ≤ 15) (h13 : 0 ≤ Xi S 1 3 ∧ Xi S 1 3 ≤ 200) (hCE : CEN S) (d : Nat) : Mp lay0 (d + 4) m_me_countReadings [.ref 895, iv from_, iv to, iv plur, iv dfd, iv least] S (Q_me_countReadings__p S from_ to plur dfd least) := by
  refine Mp_R rfl rfl (fun fu => ?_)
  have hF : FR md_me_countReadings__p S S := FR.rf
  have w1 : -2147483648 ≤ Xi S 1 3 ∧ Xi S 1 3 ≤ 2147483647 := Xi_rgI
  have C6 : ∀ (n6 : Nat) (_ : n6 ≤ fu) (T1 : sS) (_ : RI T1) (_ : FR md_me_countReadings__p S T1) (v6 : Int) (v7 : Int), (-2147483648 ≤ v6 ∧ v6 ≤ 2147483647) → (1 ≤ v7 ∧ v7 ≤ 4) → (1 ≤ v7 ∧ v7 ≤ 4) → (Hid (KCS S T1 from_ to plur dfd least v7 v6)) → (0 ≤ v6 ∧ v6 ≤ 13349232) → (to - from_ ≤ 6 ∨ v7 = 1) → Pl n6 lay0 (d + 3) m_me_countReadings 6 [(0, .ref 895), (1, iv from_), (2, iv to), (3, iv plur), (4, iv dfd), (5, iv least), (6, iv v6), (7, iv v7)] [] T1 (Q_me_countReadings__p S from_ to plur dfd least) := by
    intro n6
    induction n6 with
    | zero => intros; exact Pl_0
    | succ n6 ih6 =>
      intro hm6 T1 hHT1 hFT1 v6 v7 w2 w3 w4 K6 b6 z6
      have w5 : Xi T1 1 3 = Xi S 1 3 := hFT1.x _ _ rfl
      refine ys_iload rfl rfl ?_
      refine y_iconst rfl ?_
      refine y_icmp_gt rfl rfl (by unfold rg; omega) (by unfold rg; omega) (fun w6 => ?_) (fun w7 => ?_)
      · refine y_iload rfl rfl ?_
        refine y_ireturn rfl rfl ?_
        exact ⟨hHT1, hFT1, _, rfl, ⟨by omega, by omega⟩, (⟨fun q => by have t := K6.o; unfold KCS at t ⊢; rw [ccT_e (by omega) (by omega)] at t; obtain ⟨t1, t2⟩ := t; refine ⟨t1, fun w => ?_⟩; obtain ⟨m, a1, a2, a3, a4⟩ := t2 w; exact ⟨m, ⟨a1.1, by omega, a1.2.2⟩, a2, fun i x y u => by by_cases c : i < v7; exact a3 i x c u; (exfalso; omega), a4⟩, fun q => by have t := K6.o.1; rw [show v7 = 1 by omega, ccT_0] at t; exact t⟩)⟩
      · refine y_iload rfl rfl ?_
        refine y_iload_n rfl rfl ?_
        refine y_iload_n rfl rfl ?_
        refine y_isub rfl ?_
        refine y_icmp_gt rfl rfl (by unfold rg; omega) (by unfold rg; omega) (fun w8 => ?_) (fun w9 => ?_)
        · refine y_iload rfl rfl ?_
          refine y_ireturn rfl rfl ?_
          exact ⟨hHT1, hFT1, _, rfl, ⟨by omega, by omega⟩, (⟨fun q => by have t := K6.o; unfold KCS at t ⊢; rw [ccT_e (by omega) (by omega)] at t; obtain ⟨t1, t2⟩ := t; refine ⟨t1, fun w => ?_⟩; obtain ⟨m, a1, a2, a3, a4⟩ := t2 w; exact ⟨m, ⟨a1.1, by omega, a1.2.2⟩, a2, fun i x y u => by by_cases c : i < v7; exact a3 i x c u; (exfalso; omega), a4⟩, fun q => by have t := K6.o.1; rw [show v7 = 1 by omega, ccT_0] at t; exact t⟩)⟩
        · refine y_iload_n rfl rfl ?_
          refine y_iload_n rfl rfl ?_
          refine y_isub rfl ?_
          refine y_bipush rfl rfl ?_
          refine y_icmp_gt rfl rfl (by unfold rg; omega) (by unfold rg; omega) (fun w10 => ?_) (fun w11 => ?_)
          · refine y_iload rfl rfl ?_
            refine y_ireturn rfl rfl ?_
            exact ⟨hHT1, hFT1, _, rfl, ⟨by omega, by omega⟩, (⟨fun q => by have t := K6.o; unfold KCS at t ⊢; rw [ccT_e (by omega) (by omega)] at t; obtain ⟨t1, t2⟩ := t; refine ⟨t1, fun w => ?_⟩; obtain ⟨m, a1, a2, a3, a4⟩ := t2 w; exact ⟨m, ⟨a1.1, by omega, a1.2.2⟩, a2, fun i x y u => by by_cases c : i < v7; exact a3 i x c u; (exfalso; omega), a4⟩, fun q => by have t := K6.o.1; rw [show v7 = 1 by omega, ccT_0] at t; exact t⟩)⟩
          · refine y_aload_n rfl rfl ?_
            refine y_iload_n rfl rfl ?_
            refine y_if_eq rfl rfl (by unfold rg; omega) (fun w12 => ?_) (fun w13 => ?_)
            · refine y_iconst rfl ?_
              refine y_iload_n rfl rfl ?_
              refine y_iload rfl rfl ?_
              refine y_isub rfl ?_
              refine y_iload_n rfl rfl ?_
              refine y_callV rfl rfl rfl (t_me_find__p hHT1 0 (to - v7) to ⟨by omega, by omega⟩ ⟨by omega, by omega⟩ ⟨by omega, by omega⟩ (by first | assumption | omega) (by first | assumption | exact (CEN_FR hFT1 rfl rfl (by assumption : CEN S))) _) ?_
              rintro _ _ ⟨rfl, z14, rfl, w14, v44⟩
              show Pl _ _ _ _ _ _ [iv z14] _ _
              have V44 : Hid (SMV S T1) := SMV_FR hFT1 rfl rfl
              have k44 : z14 = ckC S to plur v7 := by unfold ckC; have t := v44; rw [fnd_eq V44.o] at t; first | (rw [if_pos (show plur = 0 by omega)]; exact t) | (rw [if_neg (show ¬ plur = 0 by omega)]; exact t)
              clear v44
              have r44 := fnd_rg (S := S) (s := if plur = 0 then 0 else 11) (a := to - v7) (b := to) hCE (by split <;> omega)
              have r44b : -1 ≤ z14 ∧ z14 ≤ 63 := by rw [k44]; exact r44
              refine y_istore rfl rfl rfl ?_
              refine y_iload rfl rfl ?_
              refine y_iconst rfl ?_
              refine y_icmp_eq rfl rfl (by unfold rg; omega) (by unfold rg; omega) (fun w15 => ?_) (fun w16 => ?_)
              · refine y_iinc rfl rfl rfl rfl ?_
                have G119 : Hid (KCS S T1 from_ to plur dfd least (v7 + 1) v6) := by first | (have t := K109; have t := kcs_y K6.o (by omega) (by omega) (by omega) x109.1 x109.2; rw [← c88] at t; exact t) | (have t := c88; exact kcs_n K6.o (by omega) (by omega) (by omega) (F88.x 895 12 rfl) (F88.x 895 13 rfl)) | (have t := n75; exact kcs_n K6.o (by omega) (by omega) (ccc_n n75.o) rfl rfl) | exact kcs_n K6.o (by omega) (by omega) (ccc_n (fun q => q.1 (by omega))) rfl rfl
                refine y_goto rfl rfl ?_
                exact Pl_weak (ih6 (by omega) T1 hHT1 hFT1 (v6) ((v7 + 1)) (by omega) (by omega) (by omega) (by first | exact G119 | exact kcs_0) (by first | (have t := G119.o.1; have u := ccT_nn (S := S) (a := from_) (t := to) (pl := plur) (d := dfd) (al := least) (v := v7 + 1); omega) | omega) (by omega)) (by omega) (And.intro rfl (And.intro rfl (And.intro rfl (And.intro rfl (And.intro rfl (And.intro rfl (And.intro rfl (And.intro rfl (True.intro)))))))))
              · refine y_iload rfl rfl ?_
                refine y_iconst rfl ?_
                refine y_icmp_eq rfl rfl (by unfold rg; omega) (by unfold rg; omega) (fun w17 => ?_) (fun w18 => ?_)
                · refine y_aload_n rfl rfl ?_
                  have O78 : Hid (cokC S to plur least v7) := ⟨by omega, by first | (have t := b69; exact Or.inr (by omega)) | exact Or.inl (by omega)⟩
                  refine y_iload rfl rfl ?_
                  refine y_iload_n rfl rfl ?_
                  refine y_iload_n rfl rfl ?_
                  refine y_iload rfl rfl ?_
                  refine y_isub rfl ?_
                  refine y_iload rfl rfl ?_
                  refine y_callV rfl rfl rfl (t_me_countParts__p hHT1 z14 from_ (to - v7) dfd ⟨by omega, by omega⟩ ⟨by omega, by omega⟩ ⟨by omega, by omega⟩ ⟨by omega, by omega⟩ (by first | assumption | omega) (by first | assumption | exact (CEN_FR hFT1 rfl rfl (by assumption : CEN S))) _) ?_
                  rintro _ T2 ⟨hHT2, w21, z20, rfl, w20, q88, w19⟩
                  have hFT2 : FR md_me_countReadings__p S T2 := FR.tr hFT1 w21 rfl
                  show Pl _ _ _ _ _ _ [iv z20] _ _
                  have c88 : z20 = ccC S from_ to plur dfd least v7 := by rw [ccc_y O78.o, ← k44]; exact cp_t q88 (by assumption : FR md_me_countReadings__p S T1) rfl
                  clear q88
                  have b88 := ccC_nn (S := S) (a := from_) (t := to) (pl := plur) (d := dfd) (al := least) (m := v7)
                  have F88 := (by assumption : FR md_me_countParts__p T1 T2)
                  refine y_istore rfl rfl rfl ?_
                  refine y_iload rfl rfl ?_
                  refine y_if_le rfl rfl (by unfold rg; omega) (fun w22 => ?_) (fun w23 => ?_)
                  · refine y_iinc rfl rfl rfl rfl ?_
                    have G119 : Hid (KCS S T2 from_ to plur dfd least (v7 + 1) v6) := by first | (have t := K109; have t := kcs_y K6.o (by omega) (by omega) (by omega) x109.1 x109.2; rw [← c88] at t; exact t) | (have t := c88; exact kcs_n K6.o (by omega) (by omega) (by omega) (F88.x 895 12 rfl) (F88.x 895 13 rfl)) | (have t := n75; exact kcs_n K6.o (by omega) (by omega) (ccc_n n75.o) rfl rfl) | exact kcs_n K6.o (by omega) (by omega) (ccc_n (fun q => q.1 (by omega))) rfl rfl
                    refine y_goto rfl rfl ?_
                    exact Pl_weak (ih6 (by omega) T2 hHT2 hFT2 (v6) ((v7 + 1)) (by omega) (by omega) (by omega) (by first | exact G119 | exact kcs_0) (by first | (have t := G119.o.1; have u := ccT_nn (S := S) (a := from_) (t := to) (pl := plur) (d := dfd) (al := least) (v := v7 + 1); omega) | omega) (by omega)) (by omega) (And.intro rfl (And.intro rfl (And.intro rfl (And.intro rfl (And.intro rfl (And.intro rfl (And.intro rfl (And.intro rfl (True.intro)))))))))
                  · refine y_aload_n rfl rfl ?_
                    refine y_iload rfl rfl ?_
                    refine y_pfi rfl rfl rfl rfl ?_
                    obtain ⟨U3, eU3⟩ : ∃ T : sS, T = uI T2 895 12 (Int32.ofInt z14) := ⟨_, rfl⟩
                    rw [← eU3]
                    have hHU3 : RI U3 := by rw [eU3]; exact RI_w hHT2
                    have hFU3 : FR md_me_countReadings__p S U3 := by rw [eU3]; exact FR.wI hFT2 (mdf_i (r := (895, 896, 12, 13)) (List.mem_of_getElem? (i := 2) rfl) (inR_i (by omega) (by omega) (by omega) (by omega)))
                    have w24 : Xi U3 895 12 = z14 := by rw [eU3]; exact Xi_same (by unfold rg; omega)
                    have ee101 := eU3
                    refine y_aload_n rfl rfl ?_
                    refine y_iload_n rfl rfl ?_
                    refine y_iload rfl rfl ?_
                    refine y_isub rfl ?_
                    refine y_pfi rfl rfl rfl rfl ?_
                    obtain ⟨U4, eU4⟩ : ∃ T : sS, T = uI U3 895 13 (Int32.ofInt (to - v7)) := ⟨_, rfl⟩
                    rw [← eU4]
                    have hHU4 : RI U4 := by rw [eU4]; exact RI_w hHU3
                    have hFU4 : FR md_me_countReadings__p S U4 := by rw [eU4]; exact FR.wI hFU3 (mdf_i (r := (895, 896, 13, 14)) (List.mem_of_getElem? (i := 3) rfl) (inR_i (by omega) (by omega) (by omega) (by omega)))
                    have w25 : Xi U4 895 13 = (to - v7) := by rw [eU4]; exact Xi_same (by unfold rg; omega)
                    have K109 : True := trivial
                    have x109 : Xi U4 895 12 = ckC S to plur v7 ∧ Xi U4 895 13 = to - v7 := ⟨by rw [eU4, Xi_ne (by omega), ee101, ← k44]; exact Xi_same (by unfold rg; omega), by rw [eU4]; exact Xi_same (by unfold rg; omega)⟩
                    refine y_iload rfl rfl ?_
                    refine y_iload rfl rfl ?_
                    refine y_iadd rfl ?_
                    refine y_istore rfl rfl rfl ?_
                    refine y_iinc rfl rfl rfl rfl ?_
                    have G119 : Hid (KCS S U4 from_ to plur dfd least (v7 + 1) (v6 + z20)) := by first | (have t := K109; have t := kcs_y K6.o (by omega) (by omega) (by omega) x109.1 x109.2; rw [← c88] at t; exact t) | (have t := c88; exact kcs_n K6.o (by omega) (by omega) (by omega) (F88.x 895 12 rfl) (F88.x 895 13 rfl)) | (have t := n75; exact kcs_n K6.o (by omega) (by omega) (ccc_n n75.o) rfl rfl) | exact kcs_n K6.o (by omega) (by omega) (ccc_n (fun q => q.1 (by omega))) rfl rfl
                    refine y_goto rfl rfl ?_
                    exact Pl_weak (ih6 (by omega) U4 hHU4 hFU4 ((v6 + z20)) ((v7 + 1)) (by omega) (by omega) (by omega) (by first | exact G119 | exact kcs_0) (by first | (have t := G119.o.1; have u := ccT_nn (S := S) (a := from_) (t := to) (pl := plur) (d := dfd) (al := least) (v := v7 + 1); omega) | omega) (by omega)) (by omega) (And.intro rfl (And.intro rfl (And.intro rfl (And.intro rfl (And.intro rfl (And.intro rfl (And.intro rfl (And.intro rfl (True.intro)))))))))
                · refine y_aload_n rfl rfl ?_
                  refine y_gfr rfl rfl rfl rfl rfl (hHT1.r 895 1 1 rfl) ?_
                  refine y_iload rfl rfl ?_
                  refine y_iload rfl rfl ?_
                  refine y_callV rfl rfl rfl (t_vo_isKind__p hHT1 z14 least ⟨by omega, by omega⟩ ⟨by omega, by omega⟩ _) ?_
                  rintro _ _ ⟨rfl, z26, rfl, w26, q69⟩
                  show Pl _ _ _ _ _ _ [iv z26] _ _
                  have b69 : z26 = isK S (ckC S to plur v7) least := by have t := q69; rw [isK_f7 hFT1 rfl, k44] at t; exact t
                  clear q69
                  refine y_if_ne rfl rfl (by unfold rg; omega) (fun w27 => ?_) (fun w28 => ?_)
                  · refine y_aload_n rfl rfl ?_
                    have O78 : Hid (cokC S to plur least v7) := ⟨by omega, by first | (have t := b69; exact Or.inr (by omega)) | exact Or.inl (by omega)⟩
                    refine y_iload rfl rfl ?_
                    refine y_iload_n rfl rfl ?_
                    refine y_iload_n rfl rfl ?_
                    refine y_iload rfl rfl ?_
                    refine y_isub rfl ?_
                    refine y_iload rfl rfl ?_
                    refine y_callV rfl rfl rfl (t_me_countParts__p hHT1 z14 from_ (to - v7) dfd ⟨by omega, by omega⟩ ⟨by omega, by omega⟩ ⟨by omega, by omega⟩ ⟨by omega, by omega⟩ (by first | assumption | omega) (by first | assumption | exact (CEN_FR hFT1 rfl rfl (by assumption : CEN S))) _) ?_
                    rintro _ T5 ⟨hHT5, w31, z30, rfl, w30, q88, w29⟩
                    have hFT5 : FR md_me_countReadings__p S T5 := FR.tr hFT1 w31 rfl
                    show Pl _ _ _ _ _ _ [iv z30] _ _
                    have c88 : z30 = ccC S from_ to plur dfd least v7 := by rw [ccc_y O78.o, ← k44]; exact cp_t q88 (by assumption : FR md_me_countReadings__p S T1) rfl
                    clear q88
                    have b88 := ccC_nn (S := S) (a := from_) (t := to) (pl := plur) (d := dfd) (al := least) (m := v7)
                    have F88 := (by assumption : FR md_me_countParts__p T1 T5)
                    refine y_istore rfl rfl rfl ?_
                    refine y_iload rfl rfl ?_
                    refine y_if_le rfl rfl (by unfold rg; omega) (fun w32 => ?_) (fun w33 => ?_)
                    · refine y_iinc rfl rfl rfl rfl ?_
                      have G119 : Hid (KCS S T5 from_ to plur dfd least (v7 + 1) v6) := by first | (have t := K109; have t := kcs_y K6.o (by omega) (by omega) (by omega) x109.1 x109.2; rw [← c88] at t; exact t) | (have t := c88; exact kcs_n K6.o (by omega) (by omega) (by omega) (F88.x 895 12 rfl) (F88.x 895 13 rfl)) | (have t := n75; exact kcs_n K6.o (by omega) (by omega) (ccc_n n75.o) rfl rfl) | exact kcs_n K6.o (by omega) (by omega) (ccc_n (fun q => q.1 (by omega))) rfl rfl
                      refine y_goto rfl rfl ?_
                      exact Pl_weak (ih6 (by omega) T5 hHT5 hFT5 (v6) ((v7 + 1)) (by omega) (by omega) (by omega) (by first | exact G119 | exact kcs_0) (by first | (have t := G119.o.1; have u := ccT_nn (S := S) (a := from_) (t := to) (pl := plur) (d := dfd) (al := least) (v := v7 + 1); omega) | omega) (by omega)) (by omega) (And.intro rfl (And.intro rfl (And.intro rfl (And.intro rfl (And.intro rfl (And.intro rfl (And.intro rfl (And.intro rfl (True.intro)))))))))
                    · refine y_aload_n rfl rfl ?_
                      refine y_iload rfl rfl ?_
                      refine y_pfi rfl rfl rfl rfl ?_
                      obtain ⟨U6, eU6⟩ : ∃ T : sS, T = uI T5 895 12 (Int32.ofInt z14) := ⟨_, rfl⟩
                      rw [← eU6]
                      have hHU6 : RI U6 := by rw [eU6]; exact RI_w hHT5
                      have hFU6 : FR md_me_countReadings__p S U6 := by rw [eU6]; exact FR.wI hFT5 (mdf_i (r := (895, 896, 12, 13)) (List.mem_of_getElem? (i := 2) rfl) (inR_i (by omega) (by omega) (by omega) (by omega)))
                      have w34 : Xi U6 895 12 = z14 := by rw [eU6]; exact Xi_same (by unfold rg; omega)
                      have ee101 := eU6
                      refine y_aload_n rfl rfl ?_
                      refine y_iload_n rfl rfl ?_
                      refine y_iload rfl rfl ?_
                      refine y_isub rfl ?_
                      refine y_pfi rfl rfl rfl rfl ?_
                      obtain ⟨U7, eU7⟩ : ∃ T : sS, T = uI U6 895 13 (Int32.ofInt (to - v7)) := ⟨_, rfl⟩
                      rw [← eU7]
                      have hHU7 : RI U7 := by rw [eU7]; exact RI_w hHU6
                      have hFU7 : FR md_me_countReadings__p S U7 := by rw [eU7]; exact FR.wI hFU6 (mdf_i (r := (895, 896, 13, 14)) (List.mem_of_getElem? (i := 3) rfl) (inR_i (by omega) (by omega) (by omega) (by omega)))
                      have w35 : Xi U7 895 13 = (to - v7) := by rw [eU7]; exact Xi_same (by unfold rg; omega)
                      have K109 : True := trivial
                      have x109 : Xi U7 895 12 = ckC S to plur v7 ∧ Xi U7 895 13 = to - v7 := ⟨by rw [eU7, Xi_ne (by omega), ee101, ← k44]; exact Xi_same (by unfold rg; omega), by rw [eU7]; exact Xi_same (by unfold rg; omega)⟩
                      refine y_iload rfl rfl ?_
                      refine y_iload rfl rfl ?_
                      refine y_iadd rfl ?_
                      refine y_istore rfl rfl rfl ?_
                      refine y_iinc rfl rfl rfl rfl ?_
                      have G119 : Hid (KCS S U7 from_ to plur dfd least (v7 + 1) (v6 + z30)) := by first | (have t := K109; have t := kcs_y K6.o (by omega) (by omega) (by omega) x109.1 x109.2; rw [← c88] at t; exact t) | (have t := c88; exact kcs_n K6.o (by omega) (by omega) (by omega) (F88.x 895 12 rfl) (F88.x 895 13 rfl)) | (have t := n75; exact kcs_n K6.o (by omega) (by omega) (ccc_n n75.o) rfl rfl) | exact kcs_n K6.o (by omega) (by omega) (ccc_n (fun q => q.1 (by omega))) rfl rfl
                      refine y_goto rfl rfl ?_
                      exact Pl_weak (ih6 (by omega) U7 hHU7 hFU7 ((v6 + z30)) ((v7 + 1)) (by omega) (by omega) (by omega) (by first | exact G119 | exact kcs_0) (by first | (have t := G119.o.1; have u := ccT_nn (S := S) (a := from_) (t := to) (pl := plur) (d := dfd) (al := least) (v := v7 + 1); omega) | omega) (by omega)) (by omega) (And.intro rfl (And.intro rfl (And.intro rfl (And.intro rfl (And.intro rfl (And.intro rfl (And.intro rfl (And.intro rfl (True.intro)))))))))
                  · refine y_goto rfl rfl ?_
                    refine y_iinc rfl rfl rfl rfl ?_
                    have G119 : Hid (KCS S T1 from_ to plur dfd least (v7 + 1) v6) := by first | (have t := K109; have t := kcs_y K6.o (by omega) (by omega) (by omega) x109.1 x109.2; rw [← c88] at t; exact t) | (have t := c88; exact kcs_n K6.o (by omega) (by omega) (by omega) (F88.x 895 12 rfl) (F88.x 895 13 rfl)) | (have t := n75; exact kcs_n K6.o (by omega) (by omega) (ccc_n n75.o) rfl rfl) | exact kcs_n K6.o (by omega) (by omega) (ccc_n (fun q => q.1 (by omega))) rfl rfl
                    refine y_goto rfl rfl ?_
                    exact Pl_weak (ih6 (by omega) T1 hHT1 hFT1 (v6) ((v7 + 1)) (by omega) (by omega) (by omega) (by first | exact G119 | exact kcs_0) (by first | (have t := G119.o.1; have u := ccT_nn (S := S) (a := from_) (t := to) (pl := plur) (d := dfd) (al := least) (v := v7 + 1); omega) | omega) (by omega)) (by omega) (And.intro rfl (And.intro rfl (And.intro rfl (And.intro rfl (And.intro rfl (And.intro rfl (And.intro rfl (And.intro rfl (True.intro)))))))))
            · refine y_bipush rfl rfl ?_
              refine y_goto rfl rfl ?_
              refine y_iload_n rfl rfl ?_
              refine y_iload rfl rfl ?_
              refine y_isub rfl ?_
              refine y_iload_n rfl rfl ?_
              refine y_callV rfl rfl rfl (t_me_find__p hHT1 11 (to - v7) to ⟨by omega, by omega⟩ ⟨by omega, by omega⟩ ⟨by omega, by omega⟩ (by first | assumption | omega) (by first | assumption | exact (CEN_FR hFT1 rfl rfl (by assumption : CEN S))) _) ?_
              rintro _ _ ⟨rfl, z36, rfl, w36, v44⟩
              show Pl _ _ _ _ _ _ [iv z36] _ _
              have V44 : Hid (SMV S T1) := SMV_FR hFT1 rfl rfl
              have k44 : z36 = ckC S to plur v7 := by unfold ckC; have t := v44; rw [fnd_eq V44.o] at t; first | (rw [if_pos (show plur = 0 by omega)]; exact t) | (rw [if_neg (show ¬ plur = 0 by omega)]; exact t)
              clear v44
              have r44 := fnd_rg (S := S) (s := if plur = 0 then 0 else 11) (a := to - v7) (b := to) hCE (by split <;> omega)
              have r44b : -1 ≤ z36 ∧ z36 ≤ 63 := by rw [k44]; exact r44
              refine y_istore rfl rfl rfl ?_
              refine y_iload rfl rfl ?_
              refine y_iconst rfl ?_
              refine y_icmp_eq rfl rfl (by unfold rg; omega) (by unfold rg; omega) (fun w37 => ?_) (fun w38 => ?_)
              · refine y_iinc rfl rfl rfl rfl ?_
                have G119 : Hid (KCS S T1 from_ to plur dfd least (v7 + 1) v6) := by first | (have t := K109; have t := kcs_y K6.o (by omega) (by omega) (by omega) x109.1 x109.2; rw [← c88] at t; exact t) | (have t := c88; exact kcs_n K6.o (by omega) (by omega) (by omega) (F88.x 895 12 rfl) (F88.x 895 13 rfl)) | (have t := n75; exact kcs_n K6.o (by omega) (by omega) (ccc_n n75.o) rfl rfl) | exact kcs_n K6.o (by omega) (by omega) (ccc_n (fun q => q.1 (by omega))) rfl rfl
                refine y_goto rfl rfl ?_
                exact Pl_weak (ih6 (by omega) T1 hHT1 hFT1 (v6) ((v7 + 1)) (by omega) (by omega) (by omega) (by first | exact G119 | exact kcs_0) (by first | (have t := G119.o.1; have u := ccT_nn (S := S) (a := from_) (t := to) (pl := plur) (d := dfd) (al := least) (v := v7 + 1); omega) | omega) (by omega)) (by omega) (And.intro rfl (And.intro rfl (And.intro rfl (And.intro rfl (And.intro rfl (And.intro rfl (And.intro rfl (And.intro rfl (True.intro)))))))))
              · refine y_iload rfl rfl ?_
                refine y_iconst rfl ?_
                refine y_icmp_eq rfl rfl (by unfold rg; omega) (by unfold rg; omega) (fun w39 => ?_) (fun w40 => ?_)
                · refine y_aload_n rfl rfl ?_
                  have O78 : Hid (cokC S to plur least v7) := ⟨by omega, by first | (have t := b69; exact Or.inr (by omega)) | exact Or.inl (by omega)⟩
                  refine y_iload rfl rfl ?_
                  refine y_iload_n rfl rfl ?_
                  refine y_iload_n rfl rfl ?_
                  refine y_iload rfl rfl ?_
                  refine y_isub rfl ?_
                  refine y_iload rfl rfl ?_
                  refine y_callV rfl rfl rfl (t_me_countParts__p hHT1 z36 from_ (to - v7) dfd ⟨by omega, by omega⟩ ⟨by omega, by omega⟩ ⟨by omega, by omega⟩ ⟨by omega, by omega⟩ (by first | assumption | omega) (by first | assumption | exact (CEN_FR hFT1 rfl rfl (by assumption : CEN S))) _) ?_
                  rintro _ T8 ⟨hHT8, w43, z42, rfl, w42, q88, w41⟩
                  have hFT8 : FR md_me_countReadings__p S T8 := FR.tr hFT1 w43 rfl
                  show Pl _ _ _ _ _ _ [iv z42] _ _
                  have c88 : z42 = ccC S from_ to plur dfd least v7 := by rw [ccc_y O78.o, ← k44]; exact cp_t q88 (by assumption : FR md_me_countReadings__p S T1) rfl
                  clear q88
                  have b88 := ccC_nn (S := S) (a := from_) (t := to) (pl := plur) (d := dfd) (al := least) (m := v7)
                  have F88 := (by assumption : FR md_me_countParts__p T1 T8)
                  refine y_istore rfl rfl rfl ?_
                  refine y_iload rfl rfl ?_
                  refine y_if_le rfl rfl (by unfold rg; omega) (fun w44 => ?_) (fun w45 => ?_)
                  · refine y_iinc rfl rfl rfl rfl ?_
                    have G119 : Hid (KCS S T8 from_ to plur dfd least (v7 + 1) v6) := by first | (have t := K109; have t := kcs_y K6.o (by omega) (by omega) (by omega) x109.1 x109.2; rw [← c88] at t; exact t) | (have t := c88; exact kcs_n K6.o (by omega) (by omega) (by omega) (F88.x 895 12 rfl) (F88.x 895 13 rfl)) | (have t := n75; exact kcs_n K6.o (by omega) (by omega) (ccc_n n75.o) rfl rfl) | exact kcs_n K6.o (by omega) (by omega) (ccc_n (fun q => q.1 (by omega))) rfl rfl
                    refine y_goto rfl rfl ?_
                    exact Pl_weak (ih6 (by omega) T8 hHT8 hFT8 (v6) ((v7 + 1)) (by omega) (by omega) (by omega) (by first | exact G119 | exact kcs_0) (by first | (have t := G119.o.1; have u := ccT_nn (S := S) (a := from_) (t := to) (pl := plur) (d := dfd) (al := least) (v := v7 + 1); omega) | omega) (by omega)) (by omega) (And.intro rfl (And.intro rfl (And.intro rfl (And.intro rfl (And.intro rfl (And.intro rfl (And.intro rfl (And.intro rfl (True.intro)))))))))
                  · refine y_aload_n rfl rfl ?_
                    refine y_iload rfl rfl ?_
                    refine y_pfi rfl rfl rfl rfl ?_
                    obtain ⟨U9, eU9⟩ : ∃ T : sS, T = uI T8 895 12 (Int32.ofInt z36) := ⟨_, rfl⟩
                    rw [← eU9]
                    have hHU9 : RI U9 := by rw [eU9]; exact RI_w hHT8
                    have hFU9 : FR md_me_countReadings__p S U9 := by rw [eU9]; exact FR.wI hFT8 (mdf_i (r := (895, 896, 12, 13)) (List.mem_of_getElem? (i := 2) rfl) (inR_i (by omega) (by omega) (by omega) (by omega)))
                    have w46 : Xi U9 895 12 = z36 := by rw [eU9]; exact Xi_same (by unfold rg; omega)
                    have ee101 := eU9
                    refine y_aload_n rfl rfl ?_
                    refine y_iload_n rfl rfl ?_
                    refine y_iload rfl rfl ?_
                    refine y_isub rfl ?_
                    refine y_pfi rfl rfl rfl rfl ?_
                    obtain ⟨U10, eU10⟩ : ∃ T : sS, T = uI U9 895 13 (Int32.ofInt (to - v7)) := ⟨_, rfl⟩
                    rw [← eU10]
                    have hHU10 : RI U10 := by rw [eU10]; exact RI_w hHU9
                    have hFU10 : FR md_me_countReadings__p S U10 := by rw [eU10]; exact FR.wI hFU9 (mdf_i (r := (895, 896, 13, 14)) (List.mem_of_getElem? (i := 3) rfl) (inR_i (by omega) (by omega) (by omega) (by omega)))
                    have w47 : Xi U10 895 13 = (to - v7) := by rw [eU10]; exact Xi_same (by unfold rg; omega)
                    have K109 : True := trivial
                    have x109 : Xi U10 895 12 = ckC S to plur v7 ∧ Xi U10 895 13 = to - v7 := ⟨by rw [eU10, Xi_ne (by omega), ee101, ← k44]; exact Xi_same (by unfold rg; omega), by rw [eU10]; exact Xi_same (by unfold rg; omega)⟩
                    refine y_iload rfl rfl ?_
                    refine y_iload rfl rfl ?_
                    refine y_iadd rfl ?_
                    refine y_istore rfl rfl rfl ?_
                    refine y_iinc rfl rfl rfl rfl ?_
                    have G119 : Hid (KCS S U10 from_ to plur dfd least (v7 + 1) (v6 + z42)) := by first | (have t := K109; have t := kcs_y K6.o (by omega) (by omega) (by omega) x109.1 x109.2; rw [← c88] at t; exact t) | (have t := c88; exact kcs_n K6.o (by omega) (by omega) (by omega) (F88.x 895 12 rfl) (F88.x 895 13 rfl)) | (have t := n75; exact kcs_n K6.o (by omega) (by omega) (ccc_n n75.o) rfl rfl) | exact kcs_n K6.o (by omega) (by omega) (ccc_n (fun q => q.1 (by omega))) rfl rfl
                    refine y_goto rfl rfl ?_
                    exact Pl_weak (ih6 (by omega) U10 hHU10 hFU10 ((v6 + z42)) ((v7 + 1)) (by omega) (by omega) (by omega) (by first | exact G119 | exact kcs_0) (by first | (have t := G119.o.1; have u := ccT_nn (S := S) (a := from_) (t := to) (pl := plur) (d := dfd) (al := least) (v := v7 + 1); omega) | omega) (by omega)) (by omega) (And.intro rfl (And.intro rfl (And.intro rfl (And.intro rfl (And.intro rfl (And.intro rfl (And.intro rfl (And.intro rfl (True.intro)))))))))
                · refine y_aload_n rfl rfl ?_
                  refine y_gfr rfl rfl rfl rfl rfl (hHT1.r 895 1 1 rfl) ?_
                  refine y_iload rfl rfl ?_
                  refine y_iload rfl rfl ?_
                  refine y_callV rfl rfl rfl (t_vo_isKind__p hHT1 z36 least ⟨by omega, by omega⟩ ⟨by omega, by omega⟩ _) ?_
                  rintro _ _ ⟨rfl, z48, rfl, w48, q69⟩
                  show Pl _ _ _ _ _ _ [iv z48] _ _
                  have b69 : z48 = isK S (ckC S to plur v7) least := by have t := q69; rw [isK_f7 hFT1 rfl, k44] at t; exact t
                  clear q69
                  refine y_if_ne rfl rfl (by unfold rg; omega) (fun w49 => ?_) (fun w50 => ?_)
                  · refine y_aload_n rfl rfl ?_
                    have O78 : Hid (cokC S to plur least v7) := ⟨by omega, by first | (have t := b69; exact Or.inr (by omega)) | exact Or.inl (by omega)⟩
                    refine y_iload rfl rfl ?_
                    refine y_iload_n rfl rfl ?_
                    refine y_iload_n rfl rfl ?_
                    refine y_iload rfl rfl ?_
                    refine y_isub rfl ?_
                    refine y_iload rfl rfl ?_
                    refine y_callV rfl rfl rfl (t_me_countParts__p hHT1 z36 from_ (to - v7) dfd ⟨by omega, by omega⟩ ⟨by omega, by omega⟩ ⟨by omega, by omega⟩ ⟨by omega, by omega⟩ (by first | assumption | omega) (by first | assumption | exact (CEN_FR hFT1 rfl rfl (by assumption : CEN S))) _) ?_
                    rintro _ T11 ⟨hHT11, w53, z52, rfl, w52, q88, w51⟩
                    have hFT11 : FR md_me_countReadings__p S T11 := FR.tr hFT1 w53 rfl
                    show Pl _ _ _ _ _ _ [iv z52] _ _
                    have c88 : z52 = ccC S from_ to plur dfd least v7 := by rw [ccc_y O78.o, ← k44]; exact cp_t q88 (by assumption : FR md_me_countReadings__p S T1) rfl
                    clear q88
                    have b88 := ccC_nn (S := S) (a := from_) (t := to) (pl := plur) (d := dfd) (al := least) (m := v7)
                    have F88 := (by assumption : FR md_me_countParts__p T1 T11)
                    refine y_istore rfl rfl rfl ?_
                    refine y_iload rfl rfl ?_
                    refine y_if_le rfl rfl (by unfold rg; omega) (fun w54 => ?_) (fun w55 => ?_)
                    · refine y_iinc rfl rfl rfl rfl ?_
                      have G119 : Hid (KCS S T11 from_ to plur dfd least (v7 + 1) v6) := by first | (have t := K109; have t := kcs_y K6.o (by omega) (by omega) (by omega) x109.1 x109.2; rw [← c88] at t; exact t) | (have t := c88; exact kcs_n K6.o (by omega) (by omega) (by omega) (F88.x 895 12 rfl) (F88.x 895 13 rfl)) | (have t := n75; exact kcs_n K6.o (by omega) (by omega) (ccc_n n75.o) rfl rfl) | exact kcs_n K6.o (by omega) (by omega) (ccc_n (fun q => q.1 (by omega))) rfl rfl
                      refine y_goto rfl rfl ?_
                      exact Pl_weak (ih6 (by omega) T11 hHT11 hFT11 (v6) ((v7 + 1)) (by omega) (by omega) (by omega) (by first | exact G119 | exact kcs_0) (by first | (have t := G119.o.1; have u := ccT_nn (S := S) (a := from_) (t := to) (pl := plur) (d := dfd) (al := least) (v := v7 + 1); omega) | omega) (by omega)) (by omega) (And.intro rfl (And.intro rfl (And.intro rfl (And.intro rfl (And.intro rfl (And.intro rfl (And.intro rfl (And.intro rfl (True.intro)))))))))
                    · refine y_aload_n rfl rfl ?_
                      refine y_iload rfl rfl ?_
                      refine y_pfi rfl rfl rfl rfl ?_
                      obtain ⟨U12, eU12⟩ : ∃ T : sS, T = uI T11 895 12 (Int32.ofInt z36) := ⟨_, rfl⟩
                      rw [← eU12]
                      have hHU12 : RI U12 := by rw [eU12]; exact RI_w hHT11
                      have hFU12 : FR md_me_countReadings__p S U12 := by rw [eU12]; exact FR.wI hFT11 (mdf_i (r := (895, 896, 12, 13)) (List.mem_of_getElem? (i := 2) rfl) (inR_i (by omega) (by omega) (by omega) (by omega)))
                      have w56 : Xi U12 895 12 = z36 := by rw [eU12]; exact Xi_same (by unfold rg; omega)
                      have ee101 := eU12
                      refine y_aload_n rfl rfl ?_
                      refine y_iload_n rfl rfl ?_
                      refine y_iload rfl rfl ?_
                      refine y_isub rfl ?_
                      refine y_pfi rfl rfl rfl rfl ?_
                      obtain ⟨U13, eU13⟩ : ∃ T : sS, T = uI U12 895 13 (Int32.ofInt (to - v7)) := ⟨_, rfl⟩
                      rw [← eU13]
                      have hHU13 : RI U13 := by rw [eU13]; exact RI_w hHU12
                      have hFU13 : FR md_me_countReadings__p S U13 := by rw [eU13]; exact FR.wI hFU12 (mdf_i (r := (895, 896, 13, 14)) (List.mem_of_getElem? (i := 3) rfl) (inR_i (by omega) (by omega) (by omega) (by omega)))
                      have w57 : Xi U13 895 13 = (to - v7) := by rw [eU13]; exact Xi_same (by unfold rg; omega)
                      have K109 : True := trivial
                      have x109 : Xi U13 895 12 = ckC S to plur v7 ∧ Xi U13 895 13 = to - v7 := ⟨by rw [eU13, Xi_ne (by omega), ee101, ← k44]; exact Xi_same (by unfold rg; omega), by rw [eU13]; exact Xi_same (by unfold rg; omega)⟩
                      refine y_iload rfl rfl ?_
                      refine y_iload rfl rfl ?_
                      refine y_iadd rfl ?_
                      refine y_istore rfl rfl rfl ?_
                      refine y_iinc rfl rfl rfl rfl ?_
                      have G119 : Hid (KCS S U13 from_ to plur dfd least (v7 + 1) (v6 + z52)) := by first | (have t := K109; have t := kcs_y K6.o (by omega) (by omega) (by omega) x109.1 x109.2; rw [← c88] at t; exact t) | (have t := c88; exact kcs_n K6.o (by omega) (by omega) (by omega) (F88.x 895 12 rfl) (F88.x 895 13 rfl)) | (have t := n75; exact kcs_n K6.o (by omega) (by omega) (ccc_n n75.o) rfl rfl) | exact kcs_n K6.o (by omega) (by omega) (ccc_n (fun q => q.1 (by omega))) rfl rfl
                      refine y_goto rfl rfl ?_
                      exact Pl_weak (ih6 (by omega) U13 hHU13 hFU13 ((v6 + z52)) ((v7 + 1)) (by omega) (by omega) (by omega) (by first | exact G119 | exact kcs_0) (by first | (have t := G119.o.1; have u := ccT_nn (S := S) (a := from_) (t := to) (pl := plur) (d := dfd) (al := least) (v := v7 + 1); omega) | omega) (by omega)) (by omega) (And.intro rfl (And.intro rfl (And.intro rfl (And.intro rfl (And.intro rfl (And.intro rfl (And.intro rfl (And.intro rfl (True.intro)))))))))
                  · refine y_goto rfl rfl ?_
                    refine y_iinc rfl rfl rfl rfl ?_
                    have G119 : Hid (KCS S T1 from_ to plur dfd least (v7 + 1) v6) := by first | (have t := K109; have t := kcs_y K6.o (by omega) (by omega) (by omega) x109.1 x109.2; rw [← c88] at t; exact t) | (have t := c88; exact kcs_n K6.o (by omega) (by omega) (by omega) (F88.x 895 12 rfl) (F88.x 895 13 rfl)) | (have t := n75; exact kcs_n K6.o (by omega) (by omega) (ccc_n n75.o) rfl rfl) | exact kcs_n K6.o (by omega) (by omega) (ccc_n (fun q => q.1 (by omega))) rfl rfl
                    refine y_goto rfl rfl ?_
                    exact Pl_weak (ih6 (by omega) T1 hHT1 hFT1 (v6) ((v7 + 1)) (by omega) (by omega) (by omega) (by first | exact G119 | exact kcs_0) (by first | (have t := G119.o.1; have u := ccT_nn (S := S) (a := from_) (t := to) (pl := plur) (d := dfd) (al := least) (v := v7 + 1); omega) | omega) (by omega)) (by omega) (And.intro rfl (And.intro rfl (And.intro rfl (And.intro rfl (And.intro rfl (And.intro rfl (And.intro rfl (And.intro rfl (True.intro)))))))))
  refine y_iconst rfl ?_
  refine y_istore rfl rfl rfl ?_
  refine y_iconst rfl ?_
  refine y_istore rfl rfl rfl ?_
  exact Pl_weak (C6 fu (by omega) S hH hF (0) (1) (by omega) (by omega) (by omega) (by first | exact G119 | exact kcs_0) (by first | (have t := G119.o.1; have u := ccT_nn (S := S) (a := from_) (t := to) (pl := plur) (d := dfd) (al := least) (v := v7 + 1); omega) | omega) (by omega)) (by omega) (And.intro rfl (And.intro rfl (And.intro rfl (And.intro rfl (And.intro rfl (And.intro rfl (And.intro rfl (And.intro rfl (True.intro)))))))))
theorem nxt_c {f : Int → Int → Int} {z p v : Int} (h1 : 1 ≤ v ∧ v ≤ 3) (h2 : p + v ≤ z) (hn : ∀ i : Int, 1 ≤ i → i < v → cpf f z (z - (p + i)).toNat = 0 ∨ f p (p + i) = 0) (hc : 0 < cpf f z (z - (p + v)).toNat) (hf : 0 < f p (p + v)) : nxt f z p = v := by
  have no : ∀ i : Int, 1 ≤ i → i < v → ¬ (p + i ≤ z ∧ 0 < f p (p + i) ∧ 0 < cpf f z (z - (p + i)).toNat) := fun i a b q => by
    rcases hn i a b with t | t <;> omega
  unfold nxt
  rcases (by omega : v = 1 ∨ v = 2 ∨ v = 3) with q | q | q <;> subst q
  · rw [if_pos ⟨h2, hf, hc⟩]
  · rw [if_neg (no 1 (by omega) (by omega)), if_pos ⟨h2, hf, hc⟩]
  · rw [if_neg (no 1 (by omega) (by omega)), if_neg (no 2 (by omega) (by omega))]
def g1C (S : sS) (a : Int) : Int → Int → Int := fun x y => mnV S (a + x) (a + y) % 256
def g2C (S : sS) (k a : Int) : Int → Int → Int := fun x y => rlF S k (a + x) (a + y) 1
/-- the parts kept so far -/
def PFX (U : sS) (f g h : Int → Int → Int) (z p : Int) : Prop := ∃ l1 l2 : List Int, prs f g z 6 0 = l1 ++ prs f g z 6 p ∧ prs f h z 6 0 = l2 ++ prs f h z 6 p ∧ Xi U 895 14 = l1.length ∧ l1.length = l2.length ∧ (∀ i : Nat, i < l1.length → Xi U 896 i = l1.getD i 0 ∧ Xi U 897 i = l2.getD i 0) ∧ (l1.length : Int) ≤ p
theorem pfx_0 {U : sS} {f g h : Int → Int → Int} {z : Int} (e : Xi U 895 14 = 0) : PFX U f g h z 0 := ⟨[], [], rfl, rfl, by rw [e]; rfl, rfl, fun i hi => absurd hi (Nat.not_lt_zero _), by show ((0 : Nat) : Int) ≤ 0; omega⟩
theorem pfx_k {U V : sS} {f g h : Int → Int → Int} {z p : Int} (q : PFX U f g h z p) (a : Xi V 895 14 = Xi U 895 14) (b : ∀ j, Xi V 896 j = Xi U 896 j) (c : ∀ j, Xi V 897 j = Xi U 897 j) : PFX V f g h z p := by
  obtain ⟨l1, l2, q1, q2, q3, q4, q5, q6⟩ := q
  exact ⟨l1, l2, q1, q2, a.trans q3, q4, fun i hi => ⟨(b i).trans (q5 i hi).1, (c i).trans (q5 i hi).2⟩, q6⟩
theorem getD_app {l : List Int} {x : Int} {i : Nat} : (l ++ [x]).getD i 0 = if i < l.length then l.getD i 0 else if i = l.length then x else 0 := by
  by_cases q : i < l.length
  · rw [if_pos q]
    simp [List.getD, List.getElem?_append_left q]
  · rw [if_neg q]
    by_cases w : i = l.length
    · rw [if_pos w, w]
      simp [List.getD]
    · rw [if_neg w]
      have t : (l ++ [x]).length ≤ i := by rw [List.length_append]; show l.length + 1 ≤ i; omega
      simp [List.getD, List.getElem?_eq_none t]
theorem pfx_s {U A B C : sS} {f g h : Int → Int → Int} {z p v x y c : Int} (q : PFX U f g h z p) (e1 : A = uI U 896 c.toNat (Int32.ofInt x)) (e2 : B = uI A 897 c.toNat (Int32.ofInt y)) (e3 : C = uI B 895 14 (Int32.ofInt (c + 1))) (hc : c = Xi U 895 14) (hx : x = g p (p + v)) (hy : y = h p (p + v)) (hn : nxt f z p = v) (hp : p < z) (h0 : 0 ≤ p) (h5 : z ≤ 6) (rx : rg x) (ry : rg y) : PFX C f g h z (p + v) := by
  obtain ⟨l1, l2, q1, q2, q3, q4, q5, q6⟩ := q
  have nr := nxt_rg (f := f) (z := z) (p := p)
  rw [prs_c (g := g) hp (by omega) hn] at q1
  rw [prs_c (g := h) hp (by omega) hn] at q2
  have cl : c.toNat = l1.length := by omega
  rw [cl] at e1 e2
  refine ⟨l1 ++ [g p (p + v)], l2 ++ [h p (p + v)], ?_, ?_, ?_, ?_, fun i hi => ?_, ?_⟩
  · rw [q1, List.append_assoc]; rfl
  · rw [q2, List.append_assoc]; rfl
  · rw [e3, List.length_append]
    refine (Xi_same (by unfold rg; omega)).trans ?_
    show c + 1 = ((l1.length + 1 : Nat) : Int)
    omega
  · rw [List.length_append, List.length_append, q4]; rfl
  · have hi2 : i < l1.length + 1 := by rw [List.length_append] at hi; exact hi
    rw [getD_app, getD_app, ← q4]
    by_cases w : i < l1.length
    · rw [if_pos w, if_pos w, e3, Xi_ne (by omega), e2, Xi_ne (by omega), e1, Xi_ne (by omega), Xi_ne (by omega), Xi_ne (by omega), Xi_ne (by omega)]
      exact q5 i w
    · have ei : i = l1.length := by omega
      rw [if_neg w, if_neg w, if_pos ei, if_pos ei, ei]
      refine ⟨?_, ?_⟩
      · rw [e3, Xi_ne (by omega), e2, Xi_ne (by omega), e1, ← hx]; exact Xi_same rx
      · rw [e3, Xi_ne (by omega), e2, ← hy]; exact Xi_same ry
  · rw [List.length_append]
    show ((l1.length + 1 : Nat) : Int) ≤ p + v
    omega
/-- what is kept in the end -/
def KPC (S1 : sS) (f g h : Int → Int → Int) (z : Int) : Prop := Xi S1 895 14 = (prs f g z 6 0).length ∧ (prs f g z 6 0).length = (prs f h z 6 0).length ∧ ∀ i : Nat, i < (prs f g z 6 0).length → Xi S1 896 i = (prs f g z 6 0).getD i 0 ∧ Xi S1 897 i = (prs f h z 6 0).getD i 0
theorem kpc_of {U : sS} {f g h : Int → Int → Int} {z p : Int} (q : PFX U f g h z p) (hp : z ≤ p) : KPC U f g h z := by
  obtain ⟨l1, l2, q1, q2, q3, q4, q5, q6⟩ := q
  have n : ∀ k : Int → Int → Int, prs f k z 6 p = [] := fun k => by show (if z ≤ p then [] else _) = []; rw [if_pos hp]
  rw [n, List.append_nil] at q1 q2
  unfold KPC
  rw [q1, q2]
  exact ⟨q3, q4, q5⟩
theorem rlF_eq {l : List rec} {S T : sS} (h : FR l S T) (e : (kdis l kA && !(mdf l 1 3)) = true) {k a b v : Int} : rlF T k a b v = rlF S k a b v := by
  have m := mnV_FR h e (a := a) (b := b)
  simp only [Bool.and_eq_true, Bool.not_eq_true'] at e
  have s := h.smk e.1
  have rl : ∀ (has t : Int) (n : Nat) (p c : Int), rln T has t n p c = rln S has t n p c := by
    intro has t n
    induction n with
    | zero => intro p c; rfl
    | succ n ih => intro p c; unfold rln; rw [s.x 9 rfl, ih]
  unfold rlF pps
  rw [m, s.x 8 rfl, ppn_fr (fun j => s.x 6 rfl j) (fun j => s.x 7 rfl j), rl]

def md_me_keepReading__p : List rec := [(895, 896, 8, 9), (895, 896, 9, 10), (895, 896, 14, 15), (896, 897, 0, 100000), (897, 898, 0, 100000), (898, 899, 0, 100000)]
abbrev Q_me_keepReading__p (S : sS) (from_ : Int) (dfd : Int) : pst := fun r S1 => RI S1 ∧ FR md_me_keepReading__p S S1 ∧ (r = none ∧ (KPC S1 (fA S (Xi S 895 12) from_ dfd) (g1C S from_) (g2C S (Xi S 895 12) from_) (Xi S 895 13 - from_)))
set_option maxRecDepth 100000 in
theorem t_me_keepReading__p {S : sS} (hH : RI S) (from_ : Int) (dfd : Int) (hfrom_ : 0 ≤ from_ ∧ from_ ≤ 5140) (hdfd : 0 ≤ dfd ∧ dfd ≤ 1) (h13 : 0 ≤ Xi S 1 3 ∧ Xi S 1 3 ≤ 200) (hCE : CEN S) (hd : from_ ≤ Xi S 895 13 ∧ Xi S 895 13 - from_ ≤ 5) (hp : 0 < cpF S (Xi S 895 12) from_ (Xi S 895 13) dfd) (d : Nat) : Mp lay0 (d + 4) m_me_keepReading [.ref 895, iv from_, iv dfd] S (Q_me_keepReading__p S from_ dfd) := by
  refine Mp_R rfl rfl (fun fu => ?_)
  have hF : FR md_me_keepReading__p S S := FR.rf
  have w1 : -2147483648 ≤ Xi S 1 3 ∧ Xi S 1 3 ≤ 2147483647 := Xi_rgI
  have w2 : -2147483648 ≤ Xi S 895 12 ∧ Xi S 895 12 ≤ 2147483647 := Xi_rgI
  have w3 : -2147483648 ≤ Xi S 895 13 ∧ Xi S 895 13 ≤ 2147483647 := Xi_rgI
  have w4 : -2147483648 ≤ Xi S 895 14 ∧ Xi S 895 14 ≤ 2147483647 := Xi_rgI
  have w5 : -2147483648 ≤ Xi S 895 8 ∧ Xi S 895 8 ≤ 2147483647 := Xi_rgI
  have w6 : -2147483648 ≤ Xi S 895 9 ∧ Xi S 895 9 ≤ 2147483647 := Xi_rgI
  have C30 : ∀ (n30 : Nat) (_ : n30 ≤ fu) (T1 : sS) (_ : RI T1) (_ : FR md_me_keepReading__p S T1) (v3 : Int) (v4 : Int), (0 ≤ v3 ∧ v3 ≤ 5) → (0 ≤ v4 ∧ v4 ≤ 5) → (v3 = Xi S 895 13 - from_) → (PRT T1 (fA S (Xi S 895 12) from_ dfd) v3 (-1)) → (Hid (PFX T1 (fA S (Xi S 895 12) from_ dfd) (g1C S from_) (g2C S (Xi S 895 12) from_) v3 v4)) → (Xi T1 895 12 = Xi S 895 12) → (0 ≤ v4) → (v4 ≤ v3) → (0 < cpf (fA S (Xi S 895 12) from_ dfd) v3 (v3 - v4).toNat) → Pl n30 lay0 (d + 3) m_me_keepReading 30 [(0, .ref 895), (1, iv from_), (2, iv dfd), (3, iv v3), (4, iv v4)] [] T1 (Q_me_keepReading__p S from_ dfd) := by
    intro n30
    induction n30 with
    | zero => intros; exact Pl_0
    | succ n30 ih30 =>
      intro hm30 T1 hHT1 hFT1 v3 v4 w7 w8 h3_30 hP30 X30 w9 w10 w11 hc30
      have w12 : Xi T1 1 3 = Xi S 1 3 := hFT1.x _ _ rfl
      have w13 : Xi T1 5 3 = Xi S 5 3 := hFT1.x _ _ rfl
      have w14 : Xi T1 895 12 = Xi S 895 12 := hFT1.x _ _ rfl
      have w15 : Xi T1 895 13 = Xi S 895 13 := hFT1.x _ _ rfl
      have w16 : -2147483648 ≤ Xi T1 895 12 ∧ Xi T1 895 12 ≤ 2147483647 := Xi_rgI
      have w17 : -2147483648 ≤ Xi T1 895 14 ∧ Xi T1 895 14 ≤ 2147483647 := Xi_rgI
      have w18 : -2147483648 ≤ Xi T1 895 8 ∧ Xi T1 895 8 ≤ 2147483647 := Xi_rgI
      have w19 : -2147483648 ≤ Xi T1 895 9 ∧ Xi T1 895 9 ≤ 2147483647 := Xi_rgI
      have C47 : ∀ (n47 : Nat) (_ : n47 ≤ n30) (T2 : sS) (_ : RI T2) (_ : FR md_me_keepReading__p S T2) (v3 : Int) (v4 : Int) (v5 : Int), (0 ≤ v3 ∧ v3 ≤ 5) → (0 ≤ v4 ∧ v4 ≤ 5) → (1 ≤ v5 ∧ v5 ≤ 3) → (v3 = Xi S 895 13 - from_) → (PRT T2 (fA S (Xi S 895 12) from_ dfd) v3 (-1)) → (Hid (PFX T2 (fA S (Xi S 895 12) from_ dfd) (g1C S from_) (g2C S (Xi S 895 12) from_) v3 v4)) → (Xi T2 895 12 = Xi S 895 12) → (0 ≤ v4) → (v4 < v3) → (1 ≤ v5 ∧ v5 ≤ 3) → (v4 + v5 ≤ v3) → (0 < cpf (fA S (Xi S 895 12) from_ dfd) v3 (v3 - v4).toNat) → (∀ i : Int, 1 ≤ i → i < v5 → cpf (fA S (Xi S 895 12) from_ dfd) v3 (v3 - (v4 + i)).toNat = 0 ∨ (fA S (Xi S 895 12) from_ dfd) v4 (v4 + i) = 0) → Pl n47 lay0 (d + 3) m_me_keepReading 47 [(0, .ref 895), (1, iv from_), (2, iv dfd), (3, iv v3), (4, iv v4), (5, iv v5)] [] T2 (Q_me_keepReading__p S from_ dfd) := by
        intro n47
        induction n47 with
        | zero => intros; exact Pl_0
        | succ n47 ih47 =>
          intro hm47 T2 hHT2 hFT2 v3 v4 v5 w20 w21 w22 h3_47 hP47 X47 w23 w24 w25 w26 w27 hc47 hn47
          have w28 : Xi T2 1 3 = Xi S 1 3 := hFT2.x _ _ rfl
          have w29 : Xi T2 5 3 = Xi S 5 3 := hFT2.x _ _ rfl
          have w30 : Xi T2 895 12 = Xi S 895 12 := hFT2.x _ _ rfl
          have w31 : Xi T2 895 13 = Xi S 895 13 := hFT2.x _ _ rfl
          have w32 : -2147483648 ≤ Xi T2 895 12 ∧ Xi T2 895 12 ≤ 2147483647 := Xi_rgI
          have w33 : -2147483648 ≤ Xi T2 895 14 ∧ Xi T2 895 14 ≤ 2147483647 := Xi_rgI
          have w34 : -2147483648 ≤ Xi T2 895 8 ∧ Xi T2 895 8 ≤ 2147483647 := Xi_rgI
          have w35 : -2147483648 ≤ Xi T2 895 9 ∧ Xi T2 895 9 ≤ 2147483647 := Xi_rgI
          have C105 : ∀  (T3 : sS) (_ : RI T3) (_ : FR md_me_keepReading__p S T3) (v3 : Int) (v4 : Int) (v5 : Int), (0 ≤ v3 ∧ v3 ≤ 5) → (0 ≤ v4 ∧ v4 ≤ 5) → (1 ≤ v5 ∧ v5 ≤ 3) → (v3 = Xi S 895 13 - from_) → (PRT T3 (fA S (Xi S 895 12) from_ dfd) v3 (-1)) → (Hid (PFX T3 (fA S (Xi S 895 12) from_ dfd) (g1C S from_) (g2C S (Xi S 895 12) from_) v3 v4)) → (Xi T3 895 12 = Xi S 895 12) → (0 ≤ v4) → (v4 < v3) → (1 ≤ v5 ∧ v5 ≤ 3) → (v4 + v5 ≤ v3) → (0 < cpf (fA S (Xi S 895 12) from_ dfd) v3 (v3 - (v4 + v5)).toNat ∧ nxt (fA S (Xi S 895 12) from_ dfd) v3 v4 = v5) → Pl n47 lay0 (d + 3) m_me_keepReading 105 [(0, .ref 895), (1, iv from_), (2, iv dfd), (3, iv v3), (4, iv v4), (5, iv v5)] [] T3 (Q_me_keepReading__p S from_ dfd) := by
            intro T3 hHT3 hFT3 v3 v4 v5 w36 w37 w38 h3_105 hP105 X105 w39 w40 w41 w42 w43 hx105
            have w44 : Xi T3 1 3 = Xi S 1 3 := hFT3.x _ _ rfl
            have w45 : Xi T3 5 3 = Xi S 5 3 := hFT3.x _ _ rfl
            have w46 : Xi T3 895 12 = Xi S 895 12 := hFT3.x _ _ rfl
            have w47 : Xi T3 895 13 = Xi S 895 13 := hFT3.x _ _ rfl
            have w48 : -2147483648 ≤ Xi T3 895 12 ∧ Xi T3 895 12 ≤ 2147483647 := Xi_rgI
            have w49 : -2147483648 ≤ Xi T3 895 14 ∧ Xi T3 895 14 ≤ 2147483647 := Xi_rgI
            have w50 : -2147483648 ≤ Xi T3 895 8 ∧ Xi T3 895 8 ≤ 2147483647 := Xi_rgI
            have w51 : -2147483648 ≤ Xi T3 895 9 ∧ Xi T3 895 9 ≤ 2147483647 := Xi_rgI
            refine y_aload_n rfl rfl ?_
            refine y_aload_n rfl rfl ?_
            refine y_gfi rfl rfl rfl rfl rfl ?_
            refine y_iload_n rfl rfl ?_
            refine y_iload rfl rfl ?_
            refine y_iadd rfl ?_
            refine y_iload_n rfl rfl ?_
            refine y_iload rfl rfl ?_
            refine y_iadd rfl ?_
            refine y_iload rfl rfl ?_
            refine y_iadd rfl ?_
            refine y_iconst rfl ?_
            refine y_iload_n rfl rfl ?_
            refine y_callV rfl rfl rfl (t_me_readAdjective__p hHT3 (Xi T3 895 12) (from_ + v4) ((from_ + v4) + v5) 1 dfd ⟨by omega, by omega⟩ ⟨by omega, by omega⟩ ⟨by omega, by omega⟩ ⟨by omega, by omega⟩ ⟨by omega, by omega⟩ (by first | assumption | omega) (by first | assumption | exact (CEN_FR hFT3 rfl rfl (by assumption : CEN S))) _) ?_
            rintro _ T4 ⟨hHT4, w53, z52, rfl, w52, v123, m123, p123⟩
            have hFT4 : FR md_me_keepReading__p S T4 := FR.tr hFT3 w53 rfl
            show Pl _ _ _ _ _ _ [iv z52] _ _
            have hP5 : PRT T4 (fA S (Xi S 895 12) from_ dfd) v3 (-1) := PRT_FR (by assumption : FR md_me_readAdjective__p T3 T4) rfl hP105
            have X5 : Hid (PFX T4 (fA S (Xi S 895 12) from_ dfd) (g1C S from_) (g2C S (Xi S 895 12) from_) v3 v4) := pfx_k X105.o ((by assumption : FR md_me_readAdjective__p T3 T4).x 895 14 rfl) (fun j => ((by assumption : FR md_me_readAdjective__p T3 T4).cx 896 rfl j).1) (fun j => ((by assumption : FR md_me_readAdjective__p T3 T4).cx 897 rfl j).1)
            have k123 : Xi T4 895 12 = Xi T3 895 12 := (by assumption : FR md_me_readAdjective__p T3 T4).x 895 12 rfl
            have n123 : Xi T4 895 14 = Xi T3 895 14 := (by assumption : FR md_me_readAdjective__p T3 T4).x 895 14 rfl
            have a123 : Xi T4 895 8 = (g1C S from_) v4 (v4 + v5) := by have t := m123; rw [mnV_FR hFT3 rfl] at t; rw [t]; unfold g1C; rw [show from_ + (v4 + v5) = from_ + v4 + v5 by omega]
            have b123 : Xi T4 895 9 = (g2C S (Xi S 895 12) from_) v4 (v4 + v5) := by have t := p123; rw [rlF_eq hFT3 rfl, show Xi T3 895 12 = Xi S 895 12 by omega] at t; rw [t]; unfold g2C; rw [show from_ + (v4 + v5) = from_ + v4 + v5 by omega]
            clear v123 m123 p123
            refine y_pop rfl rfl ?_
            refine y_aload_n rfl rfl ?_
            refine y_gfr rfl rfl rfl rfl rfl (hHT4.r 895 15 896 rfl) ?_
            refine y_aload_n rfl rfl ?_
            refine y_gfi rfl rfl rfl rfl rfl ?_
            have w54 : (Xi T4 895 14) = (Xi T3 895 14) := (show Xi T4 895 14 = Xi T3 895 14 from w53.x _ _ rfl)
            rw [w54]
            refine y_aload_n rfl rfl ?_
            refine y_gfi rfl rfl rfl rfl rfl ?_
            have w55 : -2147483648 ≤ (Xi T4 895 8) ∧ (Xi T4 895 8) ≤ 2147483647 := Xi_rgI
            refine y_iastoreP (n := 5) rfl rfl (by unfold rg; omega) (fun w56 w57 => ?_)
            obtain ⟨U5, eU5⟩ : ∃ T : sS, T = uI T4 896 (((Xi T3 895 14)).toNat) (Int32.ofInt (Xi T4 895 8)) := ⟨_, rfl⟩
            rw [← eU5]
            have hHU5 : RI U5 := by rw [eU5]; exact RI_w hHT4
            have hFU5 : FR md_me_keepReading__p S U5 := by rw [eU5]; exact FR.wI hFT4 (mdf_i (r := (896, 897, 0, 100000)) (List.mem_of_getElem? (i := 3) rfl) (inR_i (by omega) (by omega) (by omega) (by omega)))
            have w58 : Xi U5 896 (((Xi T3 895 14)).toNat) = (Xi T4 895 8) := by rw [eU5]; exact Xi_same (by unfold rg; omega)
            have ee139 := eU5
            have h959 : Xi U5 895 9 = Xi T4 895 9 := by rw [eU5]; exact Xi_ne (by omega)
            have h9514 : Xi U5 895 14 = Xi T4 895 14 := by rw [eU5]; exact Xi_ne (by omega)
            refine y_aload_n rfl rfl ?_
            refine y_gfr rfl rfl rfl rfl rfl (hHU5.r 895 16 897 rfl) ?_
            refine y_aload_n rfl rfl ?_
            refine y_gfi rfl rfl rfl rfl rfl ?_
            have w59 : (Xi U5 895 14) = (Xi T3 895 14) := (show Xi U5 895 14 = Xi T4 895 14 from by rw [eU5]; exact Xi_ne (by omega)).trans ((show Xi T4 895 14 = Xi T3 895 14 from w53.x _ _ rfl))
            rw [w59]
            refine y_aload_n rfl rfl ?_
            refine y_gfi rfl rfl rfl rfl rfl ?_
            have w60 : -2147483648 ≤ (Xi U5 895 9) ∧ (Xi U5 895 9) ≤ 2147483647 := Xi_rgI
            refine y_iastoreP (n := 5) rfl rfl (by unfold rg; omega) (fun w61 w62 => ?_)
            obtain ⟨U6, eU6⟩ : ∃ T : sS, T = uI U5 897 (((Xi T3 895 14)).toNat) (Int32.ofInt (Xi U5 895 9)) := ⟨_, rfl⟩
            rw [← eU6]
            have hHU6 : RI U6 := by rw [eU6]; exact RI_w hHU5
            have hFU6 : FR md_me_keepReading__p S U6 := by rw [eU6]; exact FR.wI hFU5 (mdf_i (r := (897, 898, 0, 100000)) (List.mem_of_getElem? (i := 4) rfl) (inR_i (by omega) (by omega) (by omega) (by omega)))
            have w63 : Xi U6 897 (((Xi T3 895 14)).toNat) = (Xi U5 895 9) := by rw [eU6]; exact Xi_same (by unfold rg; omega)
            have ee152 := eU6
            have h14b : Xi U6 895 14 = Xi U5 895 14 := by rw [eU6]; exact Xi_ne (by omega)
            refine y_aload_n rfl rfl ?_
            refine y_dup rfl rfl ?_
            refine y_gfi rfl rfl rfl rfl rfl ?_
            have w64 : (Xi U6 895 14) = (Xi T3 895 14) := (show Xi U6 895 14 = Xi U5 895 14 from by rw [eU6]; exact Xi_ne (by omega)).trans ( (show Xi U5 895 14 = Xi T4 895 14 from by rw [eU5]; exact Xi_ne (by omega)).trans ((show Xi T4 895 14 = Xi T3 895 14 from w53.x _ _ rfl)))
            rw [w64]
            refine y_iconst rfl ?_
            refine y_iadd rfl ?_
            refine y_pfi rfl rfl rfl rfl ?_
            obtain ⟨U7, eU7⟩ : ∃ T : sS, T = uI U6 895 14 (Int32.ofInt ((Xi T3 895 14) + 1)) := ⟨_, rfl⟩
            rw [← eU7]
            have hHU7 : RI U7 := by rw [eU7]; exact RI_w hHU6
            have hFU7 : FR md_me_keepReading__p S U7 := by rw [eU7]; exact FR.wI hFU6 (mdf_i (r := (895, 896, 14, 15)) (List.mem_of_getElem? (i := 2) rfl) (inR_i (by omega) (by omega) (by omega) (by omega)))
            have w65 : Xi U7 895 14 = ((Xi T3 895 14) + 1) := by rw [eU7]; exact Xi_same (by unfold rg; omega)
            have K160 : True := trivial
            have X6 : Hid (PFX U7 (fA S (Xi S 895 12) from_ dfd) (g1C S from_) (g2C S (Xi S 895 12) from_) v3 (v4 + v5)) := pfx_s X5.o ee139 ee152 eU7 (by first | rfl | omega) a123 (by first | exact b123 | exact h959.trans b123) hx105.2 (by omega) (by omega) (by omega) (by unfold rg; omega) (by unfold rg; omega)
            have hP6 : PRT U7 (fA S (Xi S 895 12) from_ dfd) v3 (-1) := PRT_FR (FR_e eU7) rfl (PRT_FR (FR_e eU6) rfl (PRT_FR (FR_e eU5) rfl hP5))
            have k160 : Xi U7 895 12 = Xi S 895 12 := by rw [eU7, Xi_ne (by omega), ee152, Xi_ne (by omega), ee139, Xi_ne (by omega)]; omega
            refine y_iload rfl rfl ?_
            refine y_iload rfl rfl ?_
            refine y_iadd rfl ?_
            refine y_istore rfl rfl rfl ?_
            refine y_goto rfl rfl ?_
            have w66 : Xi U7 895 12 = Xi T3 895 12 := (show Xi U7 895 12 = Xi U6 895 12 from by rw [eU7]; exact Xi_ne (by omega)).trans ( (show Xi U6 895 12 = Xi U5 895 12 from by rw [eU6]; exact Xi_ne (by omega)).trans ( (show Xi U5 895 12 = Xi T4 895 12 from by rw [eU5]; exact Xi_ne (by omega)).trans ((show Xi T4 895 12 = Xi T3 895 12 from w53.x _ _ rfl))))
            have w67 : Xi U7 895 8 = Xi T4 895 8 := (show Xi U7 895 8 = Xi U6 895 8 from by rw [eU7]; exact Xi_ne (by omega)).trans ( (show Xi U6 895 8 = Xi U5 895 8 from by rw [eU6]; exact Xi_ne (by omega)).trans ((show Xi U5 895 8 = Xi T4 895 8 from by rw [eU5]; exact Xi_ne (by omega))))
            have w68 : Xi U7 895 9 = Xi T4 895 9 := (show Xi U7 895 9 = Xi U6 895 9 from by rw [eU7]; exact Xi_ne (by omega)).trans ( (show Xi U6 895 9 = Xi U5 895 9 from by rw [eU6]; exact Xi_ne (by omega)).trans ((show Xi U5 895 9 = Xi T4 895 9 from by rw [eU5]; exact Xi_ne (by omega))))
            exact Pl_weak (ih30 (by omega) U7 hHU7 hFU7 (v3) ((v4 + v5)) (by omega) (by omega) (by omega) (by first | exact hP6 | exact hP0) (by first | exact X6 | exact X0) (by omega) (by omega) (by omega) (by first | exact hx105.1 | (rw [show Xi S 895 13 - from_ - 0 = Xi S 895 13 - from_ by omega]; exact hpos0))) (by omega) (And.intro rfl (And.intro rfl (And.intro rfl (And.intro rfl (And.intro rfl (True.intro))))))
          refine ys_iload rfl rfl ?_
          refine y_iconst rfl ?_
          refine y_icmp_ge rfl rfl (by unfold rg; omega) (by unfold rg; omega) (fun w69 => ?_) (fun w70 => ?_)
          · exact Pl_weak (C105 T2 hHT2 hFT2 (v3) (v4) (v5) (by omega) (by omega) (by omega) (by omega) (by first | (have t := K93; exact hP93) | exact hP47) (by first | (have t := K93; exact X93) | exact X47) (by omega) (by omega) (by omega) (by omega) (by omega) (by first | (have t := K93; exact ⟨by omega, nxt_c (by omega) (by omega) hn47 (by omega) (by omega)⟩) | (have t := kr_x fA_b (by omega) (by omega) (by omega) hc47 hn47 (by omega) (by omega) (by omega) (by omega); exact ⟨t.1, nxt_c (by omega) (by omega) hn47 t.1 t.2⟩))) (by omega) (And.intro rfl (And.intro rfl (And.intro rfl (And.intro rfl (And.intro rfl (And.intro rfl (True.intro)))))))
          · refine y_iload rfl rfl ?_
            refine y_iload rfl rfl ?_
            refine y_iadd rfl ?_
            refine y_iload_n rfl rfl ?_
            refine y_icmp_ge rfl rfl (by unfold rg; omega) (by unfold rg; omega) (fun w71 => ?_) (fun w72 => ?_)
            · exact Pl_weak (C105 T2 hHT2 hFT2 (v3) (v4) (v5) (by omega) (by omega) (by omega) (by omega) (by first | (have t := K93; exact hP93) | exact hP47) (by first | (have t := K93; exact X93) | exact X47) (by omega) (by omega) (by omega) (by omega) (by omega) (by first | (have t := K93; exact ⟨by omega, nxt_c (by omega) (by omega) hn47 (by omega) (by omega)⟩) | (have t := kr_x fA_b (by omega) (by omega) (by omega) hc47 hn47 (by omega) (by omega) (by omega) (by omega); exact ⟨t.1, nxt_c (by omega) (by omega) hn47 t.1 t.2⟩))) (by omega) (And.intro rfl (And.intro rfl (And.intro rfl (And.intro rfl (And.intro rfl (And.intro rfl (True.intro)))))))
            · refine y_aload_n rfl rfl ?_
              refine y_gfr rfl rfl rfl rfl rfl (hHT2.r 895 17 898 rfl) ?_
              refine y_iload rfl rfl ?_
              refine y_iload rfl rfl ?_
              refine y_iadd rfl ?_
              refine y_ialoadP (n := 7) rfl rfl (by unfold rg; omega) (fun w73 w74 => ?_)
              have w75 : -2147483648 ≤ (Xi T2 898 (((v4 + v5)).toNat)) ∧ (Xi T2 898 (((v4 + v5)).toNat)) ≤ 2147483647 := Xi_rgI
              have hpn : (Xi T2 898 (((v4 + v5)).toNat)) = cpf (fA S (Xi S 895 12) from_ dfd) v3 (v3 - (v4 + v5)).toNat := hP47 (v4 + v5) (by omega) (by omega)
              have hpb := cpf_bb (f := fA S (Xi S 895 12) from_ dfd) (z := v3) (m := (v3 - (v4 + v5)).toNat) fA_b (by omega)
              refine y_if_eq rfl rfl (by unfold rg; omega) (fun w76 => ?_) (fun w77 => ?_)
              · refine y_iinc rfl rfl rfl rfl ?_
                refine y_goto rfl rfl ?_
                exact Pl_weak (ih47 (by omega) T2 hHT2 hFT2 (v3) (v4) ((v5 + 1)) (by omega) (by omega) (by omega) (by omega) (by first | (have t := K93; exact hP93) | exact hP47 | exact hP30) (by first | (have t := K93; exact X93) | exact X47 | exact X30) (by omega) (by omega) (by omega) (by omega) (by omega) (by first | exact hc47 | exact hc30) (by first | (have t := K93; exact kr_n hn47 (Or.inr (by omega))) | exact kr_n hn47 (Or.inl (by omega)) | (intro i a b; omega))) (by omega) (And.intro rfl (And.intro rfl (And.intro rfl (And.intro rfl (And.intro rfl (And.intro rfl (True.intro)))))))
              · refine y_aload_n rfl rfl ?_
                refine y_aload_n rfl rfl ?_
                refine y_gfi rfl rfl rfl rfl rfl ?_
                refine y_iload_n rfl rfl ?_
                refine y_iload rfl rfl ?_
                refine y_iadd rfl ?_
                refine y_iload_n rfl rfl ?_
                refine y_iload rfl rfl ?_
                refine y_iadd rfl ?_
                refine y_iload rfl rfl ?_
                refine y_iadd rfl ?_
                refine y_iconst rfl ?_
                refine y_iload_n rfl rfl ?_
                refine y_callV rfl rfl rfl (t_me_readAdjective__p hHT2 (Xi T2 895 12) (from_ + v4) ((from_ + v4) + v5) 1 dfd ⟨by omega, by omega⟩ ⟨by omega, by omega⟩ ⟨by omega, by omega⟩ ⟨by omega, by omega⟩ ⟨by omega, by omega⟩ (by first | assumption | omega) (by first | assumption | exact (CEN_FR hFT2 rfl rfl (by assumption : CEN S))) _) ?_
                rintro _ T8 ⟨hHT8, w79, z78, rfl, w78, v93, m93, p93⟩
                have hFT8 : FR md_me_keepReading__p S T8 := FR.tr hFT2 w79 rfl
                show Pl _ _ _ _ _ _ [iv z78] _ _
                have K93 : True := trivial
                have hra : z78 = fA S (Xi S 895 12) from_ dfd v4 (v4 + v5) := ra_f2 v93 (by assumption : FR md_me_keepReading__p S T2) rfl (by omega)
                have fb := fA_b (S := S) (k := Xi S 895 12) (a := from_) (d := dfd) v4 (v4 + v5)
                have hP93 : PRT T8 (fA S (Xi S 895 12) from_ dfd) v3 (-1) := PRT_FR (by assumption : FR md_me_readAdjective__p T2 T8) rfl hP47
                have X93 : Hid (PFX T8 (fA S (Xi S 895 12) from_ dfd) (g1C S from_) (g2C S (Xi S 895 12) from_) v3 v4) := pfx_k X47.o ((by assumption : FR md_me_readAdjective__p T2 T8).x 895 14 rfl) (fun j => ((by assumption : FR md_me_readAdjective__p T2 T8).cx 896 rfl j).1) (fun j => ((by assumption : FR md_me_readAdjective__p T2 T8).cx 897 rfl j).1)
                have k93 : Xi T8 895 12 = Xi T2 895 12 := (by assumption : FR md_me_readAdjective__p T2 T8).x 895 12 rfl
                clear v93 m93 p93
                refine y_if_ne rfl rfl (by unfold rg; omega) (fun w80 => ?_) (fun w81 => ?_)
                · have w82 : Xi T8 895 12 = Xi T2 895 12 := (show Xi T8 895 12 = Xi T2 895 12 from w79.x _ _ rfl)
                  have w83 : Xi T8 895 14 = Xi T2 895 14 := (show Xi T8 895 14 = Xi T2 895 14 from w79.x _ _ rfl)
                  exact Pl_weak (C105 T8 hHT8 hFT8 (v3) (v4) (v5) (by omega) (by omega) (by omega) (by omega) (by first | (have t := K93; exact hP93) | exact hP47) (by first | (have t := K93; exact X93) | exact X47) (by omega) (by omega) (by omega) (by omega) (by omega) (by first | (have t := K93; exact ⟨by omega, nxt_c (by omega) (by omega) hn47 (by omega) (by omega)⟩) | (have t := kr_x fA_b (by omega) (by omega) (by omega) hc47 hn47 (by omega) (by omega) (by omega) (by omega); exact ⟨t.1, nxt_c (by omega) (by omega) hn47 t.1 t.2⟩))) (by omega) (And.intro rfl (And.intro rfl (And.intro rfl (And.intro rfl (And.intro rfl (And.intro rfl (True.intro)))))))
                · refine y_iinc rfl rfl rfl rfl ?_
                  refine y_goto rfl rfl ?_
                  have w84 : Xi T8 895 12 = Xi T2 895 12 := (show Xi T8 895 12 = Xi T2 895 12 from w79.x _ _ rfl)
                  have w85 : Xi T8 895 14 = Xi T2 895 14 := (show Xi T8 895 14 = Xi T2 895 14 from w79.x _ _ rfl)
                  exact Pl_weak (ih47 (by omega) T8 hHT8 hFT8 (v3) (v4) ((v5 + 1)) (by omega) (by omega) (by omega) (by omega) (by first | (have t := K93; exact hP93) | exact hP47 | exact hP30) (by first | (have t := K93; exact X93) | exact X47 | exact X30) (by omega) (by omega) (by omega) (by omega) (by omega) (by first | exact hc47 | exact hc30) (by first | (have t := K93; exact kr_n hn47 (Or.inr (by omega))) | exact kr_n hn47 (Or.inl (by omega)) | (intro i a b; omega))) (by omega) (And.intro rfl (And.intro rfl (And.intro rfl (And.intro rfl (And.intro rfl (And.intro rfl (True.intro)))))))
      refine ys_iload rfl rfl ?_
      refine y_iload_n rfl rfl ?_
      refine y_icmp_ge rfl rfl (by unfold rg; omega) (by unfold rg; omega) (fun w86 => ?_) (fun w87 => ?_)
      · refine y_return rfl rfl ?_
        exact ⟨hHT1, hFT1, rfl, (by have t := X30.o; rw [h3_30] at t; exact kpc_of t (by first | omega | (obtain ⟨l1, l2, q1, q2, q3, q4, q5, q6⟩ := t; omega)))⟩
      · refine y_aload_n rfl rfl ?_
        refine y_gfi rfl rfl rfl rfl rfl ?_
        refine y_iconst rfl ?_
        refine y_icmp_ge rfl rfl (by unfold rg; omega) (by unfold rg; omega) (fun w88 => ?_) (fun w89 => ?_)
        · refine y_return rfl rfl ?_
          exact ⟨hHT1, hFT1, rfl, (by have t := X30.o; rw [h3_30] at t; exact kpc_of t (by first | omega | (obtain ⟨l1, l2, q1, q2, q3, q4, q5, q6⟩ := t; omega)))⟩
        · refine y_iconst rfl ?_
          refine y_istore rfl rfl rfl ?_
          exact Pl_weak (C47 n30 (by omega) T1 hHT1 hFT1 (v3) (v4) (1) (by omega) (by omega) (by omega) (by omega) (by first | (have t := K93; exact hP93) | exact hP47 | exact hP30) (by first | (have t := K93; exact X93) | exact X47 | exact X30) (by omega) (by omega) (by omega) (by omega) (by omega) (by first | exact hc47 | exact hc30) (by first | (have t := K93; exact kr_n hn47 (Or.inr (by omega))) | exact kr_n hn47 (Or.inl (by omega)) | (intro i a b; omega))) (by omega) (And.intro rfl (And.intro rfl (And.intro rfl (And.intro rfl (And.intro rfl (And.intro rfl (True.intro)))))))
  refine y_aload_n rfl rfl ?_
  refine y_gfi rfl rfl rfl rfl rfl ?_
  refine y_iload_n rfl rfl ?_
  refine y_isub rfl ?_
  refine y_istore_n rfl rfl rfl ?_
  refine y_aload_n rfl rfl ?_
  refine y_aload_n rfl rfl ?_
  refine y_gfi rfl rfl rfl rfl rfl ?_
  refine y_iload_n rfl rfl ?_
  refine y_aload_n rfl rfl ?_
  refine y_gfi rfl rfl rfl rfl rfl ?_
  refine y_iload_n rfl rfl ?_
  refine y_callV rfl rfl rfl (t_me_countParts__p hH (Xi S 895 12) from_ (Xi S 895 13) dfd ⟨by omega, by omega⟩ ⟨by omega, by omega⟩ ⟨by omega, by omega⟩ ⟨by omega, by omega⟩ (by first | assumption | omega) (by first | assumption | exact (CEN_FR hF rfl rfl (by assumption : CEN S))) _) ?_
  rintro _ T9 ⟨hHT9, w91, z90, rfl, w90, q18, pt18⟩
  have hFT9 : FR md_me_keepReading__p S T9 := FR.tr hF w91 rfl
  show Pl _ _ _ _ _ _ [iv z90] _ _
  have hpt : PRT T9 (fA S (Xi S 895 12) from_ dfd) (Xi S 895 13 - from_) (-1) := pt18 (by omega) (by omega)
  clear q18 pt18
  have hpos0 : 0 < cpf (fA S (Xi S 895 12) from_ dfd) (Xi S 895 13 - from_) (Xi S 895 13 - from_).toNat := by have t := hp; unfold cpF at t; rw [if_neg (by omega)] at t; exact t
  have F18 := (by assumption : FR md_me_countParts__p S T9)
  have k18 : Xi T9 895 12 = Xi S 895 12 := F18.x 895 12 rfl
  refine y_pop rfl rfl ?_
  refine y_aload_n rfl rfl ?_
  refine y_iconst rfl ?_
  refine y_pfi rfl rfl rfl rfl ?_
  obtain ⟨U10, eU10⟩ : ∃ T : sS, T = uI T9 895 14 (Int32.ofInt 0) := ⟨_, rfl⟩
  rw [← eU10]
  have hHU10 : RI U10 := by rw [eU10]; exact RI_w hHT9
  have hFU10 : FR md_me_keepReading__p S U10 := by rw [eU10]; exact FR.wI hFT9 (mdf_i (r := (895, 896, 14, 15)) (List.mem_of_getElem? (i := 2) rfl) (inR_i (by omega) (by omega) (by omega) (by omega)))
  have w92 : Xi U10 895 14 = 0 := by rw [eU10]; exact Xi_same (by unfold rg; omega)
  have hP0 : PRT U10 (fA S (Xi S 895 12) from_ dfd) (Xi S 895 13 - from_) (-1) := PRT_FR (FR_e eU10) rfl hpt
  have X0 : Hid (PFX U10 (fA S (Xi S 895 12) from_ dfd) (g1C S from_) (g2C S (Xi S 895 12) from_) (Xi S 895 13 - from_) 0) := pfx_0 (by rw [eU10]; exact Xi_same (by unfold rg; omega))
  have k24 : Xi U10 895 12 = Xi S 895 12 := by rw [eU10, Xi_ne (by omega)]; exact k18
  refine y_iconst rfl ?_
  refine y_istore rfl rfl rfl ?_
  have w93 : Xi U10 895 12 = Xi S 895 12 := (show Xi U10 895 12 = Xi T9 895 12 from by rw [eU10]; exact Xi_ne (by omega)).trans ((show Xi T9 895 12 = Xi S 895 12 from w91.x _ _ rfl))
  have w94 : Xi U10 895 8 = Xi T9 895 8 := (show Xi U10 895 8 = Xi T9 895 8 from by rw [eU10]; exact Xi_ne (by omega))
  have w95 : Xi U10 895 9 = Xi T9 895 9 := (show Xi U10 895 9 = Xi T9 895 9 from by rw [eU10]; exact Xi_ne (by omega))
  exact Pl_weak (C30 fu (by omega) U10 hHU10 hFU10 (((Xi S 895 13) - from_)) (0) (by omega) (by omega) (by omega) (by first | exact hP6 | exact hP0) (by first | exact X6 | exact X0) (by omega) (by omega) (by omega) (by first | exact hx105.1 | (rw [show Xi S 895 13 - from_ - 0 = Xi S 895 13 - from_ by omega]; exact hpos0))) (by omega) (And.intro rfl (And.intro rfl (And.intro rfl (And.intro rfl (And.intro rfl (True.intro))))))
end
