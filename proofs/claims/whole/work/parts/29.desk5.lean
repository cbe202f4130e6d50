set_option maxHeartbeats 4000000 in
set_option maxRecDepth 100000 in
theorem ct_X4_offerFor (l : Launch) (G : ck_G) (H : Heap) (ad : Nat → Nat) (N : Nat → Prop) (F : Nat → va_E) (hW : ck_W G ad N F H) (V : Nat → Nat → Int32) (L : Nat → Nat → Int64) (nc nr : Nat) (hC : ck_C G ad V L nc nr N F) (hlt : l.stackTraces = false) (a0 a1 : Int32) : vx_Met l yX4_offerFor wsX4_offerFor ({ frames := 6, cells := 1, slots := 6, locals := 90 }) (ck_P G H [.ref (ad 0), .int a0, .int a1]) (ck_Qi G (fun r H1 => ck_RoffF (fun i => ck_pr V a1 i) a0 a1 0 r ∧ ck_W G ad N F H1)) (ck_Xc G (fun E => ∃ k r, ck_RoffF (fun i => ck_pr V a1 i) a0 a1 k r ∧ ck_ex2 ck_IAE ck_NSE k E) ad N F) 1 6 (ck_A G) := by
  refine vx_ofW (cc := cX4_offerFor) (maxL := 5) (ret := (some .int)) (by decide) rfl ?_
  intro p e s m args below meth c s₁ B hml hnx hv
  obtain ⟨rfl, hH, hKK⟩ := hv
  subst hH
  have hx := B.exec
  have hb := B.bytes
  have hr := B.returns
  have hts := atoms_spec (ws := wsX4_offerFor) B.pre
  have hown : s.vm.findClass RX4 = some m.cls := findClass_of_methodNamed B.named
  have hlocks := B.notSynchronized
  have hKK0 := hKK
  have hK := hKK.1.1
  have hS : va_S (ck_A G) s.heap s.heap [] := va_S.rf
  have hl := lv_entry ([.ref (ad 0), .int a0, .int a1]) (n := 5) (Nat.le_of_ble_eq_true rfl)
  rw [lg_entry_eq]
  generalize (lg_sl ([.ref (ad 0), .int a0, .int a1]) ++ List.replicate (5 - (lg_sl ([.ref (ad 0), .int a0, .int a1])).length) Slot.unset).toArray = ls at hl ⊢
  have hl : lv_has ls 5 [(0, .ref (ad 0)), (1, .int a0), (2, .int a1)] := hl
  have hsm : ck_sD F F := fun _ _ _ => rfl
  refine lv_aload_n hx hb dX4_offerFor_0 rfl (lv_at hl 0 rfl) ?_
  refine lv_iload_n hx hb dX4_offerFor_1 rfl (lv_at hl 1 rfl) ?_
  refine ck_cVq (As := [.int a0]) (rest := []) ⟨hx, hb, hml, hown, hts⟩ hKK (ct_X4_carrierAt l G s.heap ad N F hW V L nc nr hC a0) (cwV 1 hts gX4_offerFor_X4_carrierAt rfl rfl rfl (by decide +kernel) ⟨Nat.le_of_ble_eq_true rfl, Nat.le_of_ble_eq_true rfl⟩) (ck_recv hK hW (hC.n 0 (by decide)) hC.f0 rfl) rfl hl rfl (Nat.le_of_ble_eq_true rfl) dX4_offerFor_2 ⟨Nat.le_of_ble_eq_true rfl, Nat.le_of_ble_eq_true rfl⟩ (fun r_2 h_2 => ?_)
  rcases h_2 with ⟨j2, hj2, e2, rfl⟩ | ⟨hno2, rfl⟩
  · skip
    refine lv_astore_n (lv' := [(3, .ref (ad (11 + j2))), (0, .ref (ad 0)), (1, .int a0), (2, .int a1)]) hx hb dX4_offerFor_5 rfl hl (by decide) rfl (fun ls hl => ?_)
    refine lv_aload_n hx hb dX4_offerFor_6 rfl (lv_at hl 0 rfl) ?_
    refine lv_ifnull hx hb dX4_offerFor_7 ?_
    refine lv_iload_n hx hb dX4_offerFor_10 rfl (lv_at hl 3 rfl) ?_
    refine ck_cSi (As := [.int a1]) (rest := []) ⟨hx, hb, hml, hown, hts⟩ hKK (ct_X4_isNumber l G s.heap a1) (va_cwS 1 hts gX4_offerFor_X4_isNumber rfl rfl rfl (by decide +kernel) ⟨Nat.le_of_ble_eq_true rfl, Nat.le_of_ble_eq_true rfl⟩) rfl hl rfl (Nat.le_of_ble_eq_true rfl) dX4_offerFor_11 ⟨Nat.le_of_ble_eq_true rfl, Nat.le_of_ble_eq_true rfl⟩ (fun r_11 h_11 => ?_)
    rcases h_11 with ⟨h_11, rfl⟩ | ⟨h_11, rfl⟩
    · skip
      refine lv_if_ne (tgt := 27) hx hb dX4_offerFor_14 (by decide) (fun _ => ?_) (fun c_14 => absurd c_14 (by decide))
      refine lv_aload_n hx hb dX4_offerFor_27 rfl (lv_at hl 0 rfl) ?_
      refine lv_iload_n hx hb dX4_offerFor_28 rfl (lv_at hl 3 rfl) ?_
      refine ck_cVi (As := [.int a1]) (rest := []) ⟨hx, hb, hml, hown, hts⟩ hKK (ct_X1_priceFor l G s.heap ad N F hW (11 + j2) (hC.n (11 + j2) (by omega)) (15 + j2) (19 + j2) (hC.car j2 hj2) (hC.n (15 + j2) (by omega)) ((V (20 + j2))) (hC.pre j2 hj2) (hC.n (19 + j2) (by omega)) ((V (24 + j2))) (hC.pri j2 hj2) a1) (cwV 1 hts gX4_offerFor_X1_priceFor rfl rfl rfl (by decide +kernel) ⟨Nat.le_of_ble_eq_true rfl, Nat.le_of_ble_eq_true rfl⟩) (ck_recv hK hW (hC.n (11 + j2) (by omega)) (hC.car j2 hj2) rfl) rfl hl rfl (Nat.le_of_ble_eq_true rfl) dX4_offerFor_29 ⟨Nat.le_of_ble_eq_true rfl, Nat.le_of_ble_eq_true rfl⟩ (fun r_29 h_29 => ?_)
      subst h_29
      refine lv_istore (lv' := [(4, .int ((ck_pf ((V (20 + j2))) ((V (24 + j2))) a1 10).2)), (3, .ref (ad (11 + j2))), (0, .ref (ad 0)), (1, .int a0), (2, .int a1)]) hx hb dX4_offerFor_32 hl (by decide) rfl (fun ls hl => ?_)
      refine lv_iload hx hb dX4_offerFor_34 (lv_at hl 0 rfl) ?_
      refine lv_iconst (v := (-1)) hx hb dX4_offerFor_36 (by decide) ?_
      refine lv_icmp_ne (tgt := 50) hx hb dX4_offerFor_37 (by decide) (fun c_37 => ?_) (fun c_37 => ?_)
      · skip
        refine lv_iload hx hb dX4_offerFor_50 (lv_at hl 0 rfl) ?_
        refine W.widen (k := 1) (n := 6) (by decide) (by decide) ?_
        exact vx_ret (W.iret (v := ((ck_pf ((V (20 + j2))) ((V (24 + j2))) a1 10).2)) hx hb hr (fun t ht hW9 => ⟨⟨_, rfl, by rw [ht]; exact ⟨Or.inr ⟨j2, hj2, e2, h_11, Or.inr ⟨c_37, rfl, rfl⟩⟩, hW⟩⟩, hS.F ht⟩) hS.2.2 dX4_offerFor_52)
      · skip
        exact ck_throwN (cls := "java/util/NoSuchElementException") (text := "the carrier has no offer for the number") hx hb hlt hown hKK0 (by decide +kernel) (by decide +kernel) (hts _ (List.mem_of_getElem? (i := 3) rfl)) (hts _ (List.mem_of_getElem? (i := 4) rfl)) (List.mem_of_getElem? (i := 15) rfl) (List.mem_of_getElem? (i := 3) rfl) (fun w hw => hts w (List.mem_cons_of_mem _ (List.mem_append.mpr (Or.inr hw)))) (by decide +kernel) (by decide +kernel) hS (hl.1.trans hml.symm) dX4_offerFor_40 dX4_offerFor_43 dX4_offerFor_44 dX4_offerFor_46 dX4_offerFor_49 hnx (Nat.le_of_ble_eq_true rfl) (Nat.le_of_ble_eq_true rfl) (Nat.le_of_ble_eq_true rfl) (Nat.le_of_ble_eq_true rfl) hlocks (Nat.le_of_ble_eq_true rfl) (Nat.le_of_ble_eq_true rfl) hW (⟨2, 0, Or.inr ⟨j2, hj2, e2, h_11, Or.inl ⟨c_37, rfl⟩⟩, Or.inr ⟨rfl, rfl⟩⟩)
    · skip
      refine lv_if_ne (tgt := 27) hx hb dX4_offerFor_14 (by decide) (fun c_14 => absurd (by decide) c_14) (fun _ => ?_)
      exact ck_throw (cls := "java/lang/IllegalArgumentException") (text := "the carrier or the number is out of range") hx hb hlt hown hKK0 (by decide +kernel) (by decide +kernel) (hts _ (List.mem_of_getElem? (i := 1) rfl)) (hts _ (List.mem_of_getElem? (i := 2) rfl)) (List.mem_of_getElem? (i := 14) rfl) (List.mem_of_getElem? (i := 0) rfl) (fun w hw => hts w (List.mem_cons_of_mem _ (List.mem_append.mpr (Or.inl (List.mem_append.mpr (Or.inr hw)))))) (by decide +kernel) (by decide +kernel) hS (hl.1.trans hml.symm) dX4_offerFor_17 dX4_offerFor_20 dX4_offerFor_21 dX4_offerFor_23 dX4_offerFor_26 hnx (Nat.le_of_ble_eq_true rfl) (Nat.le_of_ble_eq_true rfl) (Nat.le_of_ble_eq_true rfl) (Nat.le_of_ble_eq_true rfl) hlocks (Nat.le_of_ble_eq_true rfl) (Nat.le_of_ble_eq_true rfl) hW (⟨1, 0, Or.inl ⟨fun z => h_11 z.2, rfl⟩, Or.inl ⟨rfl, rfl⟩⟩)
  · skip
    refine lv_astore_nN (lv' := [(3, .null), (0, .ref (ad 0)), (1, .int a0), (2, .int a1)]) hx hb dX4_offerFor_5 rfl hl (by decide) rfl (fun ls hl => ?_)
    refine lv_aload_nN hx hb dX4_offerFor_6 rfl (lv_at hl 0 rfl) ?_
    refine lv_ifnullN (tgt := 17) hx hb dX4_offerFor_7 (by decide) ?_
    exact ck_throw (cls := "java/lang/IllegalArgumentException") (text := "the carrier or the number is out of range") hx hb hlt hown hKK0 (by decide +kernel) (by decide +kernel) (hts _ (List.mem_of_getElem? (i := 1) rfl)) (hts _ (List.mem_of_getElem? (i := 2) rfl)) (List.mem_of_getElem? (i := 14) rfl) (List.mem_of_getElem? (i := 0) rfl) (fun w hw => hts w (List.mem_cons_of_mem _ (List.mem_append.mpr (Or.inl (List.mem_append.mpr (Or.inr hw)))))) (by decide +kernel) (by decide +kernel) hS (hl.1.trans hml.symm) dX4_offerFor_17 dX4_offerFor_20 dX4_offerFor_21 dX4_offerFor_23 dX4_offerFor_26 hnx (Nat.le_of_ble_eq_true rfl) (Nat.le_of_ble_eq_true rfl) (Nat.le_of_ble_eq_true rfl) (Nat.le_of_ble_eq_true rfl) hlocks (Nat.le_of_ble_eq_true rfl) (Nat.le_of_ble_eq_true rfl) hW (⟨1, 0, Or.inl ⟨fun z => hno2 z.1, rfl⟩, Or.inl ⟨rfl, rfl⟩⟩)
set_option maxHeartbeats 4000000 in
set_option maxRecDepth 100000 in
theorem ct_X4_route (l : Launch) (G : ck_G) (H : Heap) (ad : Nat → Nat) (N : Nat → Prop) (F : Nat → va_E) (hW : ck_W G ad N F H) (V : Nat → Nat → Int32) (L : Nat → Nat → Int64) (nc nr : Nat) (hC : ck_C G ad V L nc nr N F) (hlt : l.stackTraces = false) (a0 a1 a2 a3 : Int32) : vx_Met l yX4_route wsX4_route ({ frames := 6, cells := 1, slots := 6, locals := 121 }) (ck_P G H [.ref (ad 0), .int a0, .int a1, .int a2, .int a3]) (ck_Qi G (fun r H1 => ck_Rroute V nr (fun z => ck_rk (ck_pr V a0) z a3 0 4) a0 a1 a2 a3 0 r ∧ ck_W G ad N F H1)) (ck_Xc G (fun E => ∃ k r, ck_Rroute V nr (fun z => ck_rk (ck_pr V a0) z a3 0 4) a0 a1 a2 a3 k r ∧ ck_ex2 ck_IAE ck_NSE k E) ad N F) 1 6 (ck_A G) := by
  refine vx_ofW (cc := cX4_route) (maxL := 7) (ret := (some .int)) (by decide) rfl ?_
  intro p e s m args below meth c s₁ B hml hnx hv
  obtain ⟨rfl, hH, hKK⟩ := hv
  subst hH
  have hx := B.exec
  have hb := B.bytes
  have hr := B.returns
  have hts := atoms_spec (ws := wsX4_route) B.pre
  have hown : s.vm.findClass RX4 = some m.cls := findClass_of_methodNamed B.named
  have hlocks := B.notSynchronized
  have hKK0 := hKK
  have hK := hKK.1.1
  have hS : va_S (ck_A G) s.heap s.heap [] := va_S.rf
  have hinX2 : ∀ w ∈ u_ws RX2 TX2 7, w ∈ wsX4_route := by decide +kernel
  have hl := lv_entry ([.ref (ad 0), .int a0, .int a1, .int a2, .int a3]) (n := 7) (Nat.le_of_ble_eq_true rfl)
  rw [lg_entry_eq]
  generalize (lg_sl ([.ref (ad 0), .int a0, .int a1, .int a2, .int a3]) ++ List.replicate (7 - (lg_sl ([.ref (ad 0), .int a0, .int a1, .int a2, .int a3])).length) Slot.unset).toArray = ls at hl ⊢
  have hl : lv_has ls 7 [(0, .ref (ad 0)), (1, .int a0), (2, .int a1), (3, .int a2), (4, .int a3)] := hl
  have hsm : ck_sD F F := fun _ _ _ => rfl
  refine lv_iload_n hx hb dX4_route_0 rfl (lv_at hl 1 rfl) ?_
  refine ck_cSi (As := [.int a0]) (rest := []) ⟨hx, hb, hml, hown, hts⟩ hKK (ct_X4_isNumber l G s.heap a0) (va_cwS 1 hts gX4_route_X4_isNumber rfl rfl rfl (by decide +kernel) ⟨Nat.le_of_ble_eq_true rfl, Nat.le_of_ble_eq_true rfl⟩) rfl hl rfl (Nat.le_of_ble_eq_true rfl) dX4_route_1 ⟨Nat.le_of_ble_eq_true rfl, Nat.le_of_ble_eq_true rfl⟩ (fun r_1 h_1 => ?_)
  rcases h_1 with ⟨h_1, rfl⟩ | ⟨h_1, rfl⟩
  · skip
    refine lv_if_eq (tgt := 30) hx hb dX4_route_4 (by decide) (fun c_4 => absurd c_4 (by decide)) (fun _ => ?_)
    refine lv_iload_n hx hb dX4_route_7 rfl (lv_at hl 2 rfl) ?_
    refine ck_cSi (As := [.int a1]) (rest := []) ⟨hx, hb, hml, hown, hts⟩ hKK (ct_X4_isDay l G s.heap a1) (va_cwS 1 hts gX4_route_X4_isDay rfl rfl rfl (by decide +kernel) ⟨Nat.le_of_ble_eq_true rfl, Nat.le_of_ble_eq_true rfl⟩) rfl hl rfl (Nat.le_of_ble_eq_true rfl) dX4_route_8 ⟨Nat.le_of_ble_eq_true rfl, Nat.le_of_ble_eq_true rfl⟩ (fun r_8 h_8 => ?_)
    rcases h_8 with ⟨h_8, rfl⟩ | ⟨h_8, rfl⟩
    · skip
      refine lv_if_eq (tgt := 30) hx hb dX4_route_11 (by decide) (fun c_11 => absurd c_11 (by decide)) (fun _ => ?_)
      refine lv_iload_n hx hb dX4_route_14 rfl (lv_at hl 3 rfl) ?_
      refine lv_iconst (v := 0) hx hb dX4_route_15 (by decide) ?_
      refine lv_sipush (v := 10000) hx hb dX4_route_16 (by decide) ?_
      refine ck_cSi (As := [.int a2, .int 0, .int 10000]) (rest := []) ⟨hx, hb, hml, hown, hts⟩ hKK (ct_X4_within l G s.heap a2 0 10000) (va_cwS 3 hts gX4_route_X4_within rfl rfl rfl (by decide +kernel) ⟨Nat.le_of_ble_eq_true rfl, Nat.le_of_ble_eq_true rfl⟩) rfl hl rfl (Nat.le_of_ble_eq_true rfl) dX4_route_19 ⟨Nat.le_of_ble_eq_true rfl, Nat.le_of_ble_eq_true rfl⟩ (fun r_19 h_19 => ?_)
      rcases h_19 with ⟨h_19, rfl⟩ | ⟨h_19, rfl⟩
      · skip
        refine lv_if_eq (tgt := 30) hx hb dX4_route_22 (by decide) (fun c_22 => absurd c_22 (by decide)) (fun _ => ?_)
        refine lv_iload hx hb dX4_route_25 (lv_at hl 4 rfl) ?_
        refine lv_if_ge (tgt := 40) hx hb dX4_route_27 (by decide) (fun c_27 => ?_) (fun c_27 => ?_)
        · skip
          refine lv_aload_n hx hb dX4_route_40 rfl (lv_at hl 0 rfl) ?_
          refine lv_iload_n hx hb dX4_route_41 rfl (lv_at hl 1 rfl) ?_
          refine lv_iload_n hx hb dX4_route_42 rfl (lv_at hl 2 rfl) ?_
          refine ck_cVq (As := [.int a0, .int a1]) (rest := []) ⟨hx, hb, hml, hown, hts⟩ hKK (ct_X4_rateInForce l G s.heap ad N F hW V L nc nr hC a0 a1) (cwV 2 hts gX4_route_X4_rateInForce rfl rfl rfl (by decide +kernel) ⟨Nat.le_of_ble_eq_true rfl, Nat.le_of_ble_eq_true rfl⟩) (ck_recv hK hW (hC.n 0 (by decide)) hC.f0 rfl) rfl hl rfl (Nat.le_of_ble_eq_true rfl) dX4_route_43 ⟨Nat.le_of_ble_eq_true rfl, Nat.le_of_ble_eq_true rfl⟩ (fun r_43 h_43 => ?_)
          rcases h_43 with ⟨b43, hb43, e_43, rfl⟩ | ⟨e_43, rfl⟩
          · skip
            refine lv_astore (lv' := [(5, .ref (ad (200 + b43))), (0, .ref (ad 0)), (1, .int a0), (2, .int a1), (3, .int a2), (4, .int a3)]) hx hb dX4_route_46 hl (by decide) rfl (fun ls hl => ?_)
            refine lv_aload hx hb dX4_route_48 (lv_at hl 0 rfl) ?_
            refine lv_ifnonnull (tgt := 63) hx hb dX4_route_50 (by decide) ?_
            refine lv_aload_n hx hb dX4_route_63 rfl (lv_at hl 1 rfl) ?_
            refine lv_iload_n hx hb dX4_route_64 rfl (lv_at hl 2 rfl) ?_
            refine lv_aload hx hb dX4_route_65 (lv_at hl 0 rfl) ?_
            refine ck_get (v := .int (V 9 b43)) hx hb hts hinX2 hown hK hW (hC.nrate b43 hb43) (hC.rate b43 hb43) rfl 3 (by decide) (hts _ (List.mem_of_getElem? (i := 5) rfl)) rfl rfl dX4_route_67 ?_
            refine lv_iload_n hx hb dX4_route_70 rfl (lv_at hl 4 rfl) ?_
            refine lv_isub hx hb dX4_route_71 ?_
            refine lv_iload hx hb dX4_route_72 (lv_at hl 5 rfl) ?_
            refine ck_cVi (As := [.int a0, .int (((V 9 b43)) - a2), .int a3]) (rest := []) ⟨hx, hb, hml, hown, hts⟩ hKK (ct_X4_carrierOfRank l G s.heap ad N F hW V L nc nr hC a0 ((((V 9 b43)) - a2)) a3) (cwV 3 hts gX4_route_X4_carrierOfRank rfl rfl rfl (by decide +kernel) ⟨Nat.le_of_ble_eq_true rfl, Nat.le_of_ble_eq_true rfl⟩) (ck_recv hK hW (hC.n 0 (by decide)) hC.f0 rfl) rfl hl rfl (Nat.le_of_ble_eq_true rfl) dX4_route_74 ⟨Nat.le_of_ble_eq_true rfl, Nat.le_of_ble_eq_true rfl⟩ (fun r_74 h_74 => ?_)
            subst h_74
            refine lv_istore (lv' := [(6, .int (ck_rk (ck_pr V a0) ((((V 9 b43)) - a2)) a3 0 4)), (5, .ref (ad (200 + b43))), (0, .ref (ad 0)), (1, .int a0), (2, .int a1), (3, .int a2), (4, .int a3)]) hx hb dX4_route_77 hl (by decide) rfl (fun ls hl => ?_)
            refine lv_iload hx hb dX4_route_79 (lv_at hl 0 rfl) ?_
            refine lv_iconst (v := (-1)) hx hb dX4_route_81 (by decide) ?_
            refine lv_icmp_ne (tgt := 95) hx hb dX4_route_82 (by decide) (fun c_82 => ?_) (fun c_82 => ?_)
            · skip
              refine lv_iload hx hb dX4_route_95 (lv_at hl 0 rfl) ?_
              refine W.widen (k := 1) (n := 6) (by decide) (by decide) ?_
              exact vx_ret (W.iret (v := (ck_rk (ck_pr V a0) ((((V 9 b43)) - a2)) a3 0 4)) hx hb hr (fun t ht hW9 => ⟨⟨_, rfl, by rw [ht]; exact ⟨Or.inr ⟨⟨h_1, h_8, h_19, c_27⟩, Or.inr ⟨b43, hb43, e_43, Or.inr ⟨c_82, rfl, rfl⟩⟩⟩, hW⟩⟩, hS.F ht⟩) hS.2.2 dX4_route_97)
            · skip
              exact ck_throwN (cls := "java/util/NoSuchElementException") (text := "no such carrier") hx hb hlt hown hKK0 (by decide +kernel) (by decide +kernel) (hts _ (List.mem_of_getElem? (i := 3) rfl)) (hts _ (List.mem_of_getElem? (i := 4) rfl)) (List.mem_of_getElem? (i := 17) rfl) (List.mem_of_getElem? (i := 3) rfl) (fun w hw => hts w (List.mem_cons_of_mem _ (List.mem_append.mpr (Or.inr hw)))) (by decide +kernel) (by decide +kernel) hS (hl.1.trans hml.symm) dX4_route_85 dX4_route_88 dX4_route_89 dX4_route_91 dX4_route_94 hnx (Nat.le_of_ble_eq_true rfl) (Nat.le_of_ble_eq_true rfl) (Nat.le_of_ble_eq_true rfl) (Nat.le_of_ble_eq_true rfl) hlocks (Nat.le_of_ble_eq_true rfl) (Nat.le_of_ble_eq_true rfl) hW (⟨2, 0, Or.inr ⟨⟨h_1, h_8, h_19, c_27⟩, Or.inr ⟨b43, hb43, e_43, Or.inl ⟨c_82, rfl⟩⟩⟩, Or.inr ⟨rfl, rfl⟩⟩)
          · skip
            refine lv_astoreN (lv' := [(5, .null), (0, .ref (ad 0)), (1, .int a0), (2, .int a1), (3, .int a2), (4, .int a3)]) hx hb dX4_route_46 hl (by decide) rfl (fun ls hl => ?_)
            refine lv_aloadN hx hb dX4_route_48 (lv_at hl 0 rfl) ?_
            refine lv_ifnonnullN hx hb dX4_route_50 ?_
            exact ck_throwN (cls := "java/util/NoSuchElementException") (text := "no rate for the number on the day") hx hb hlt hown hKK0 (by decide +kernel) (by decide +kernel) (hts _ (List.mem_of_getElem? (i := 3) rfl)) (hts _ (List.mem_of_getElem? (i := 4) rfl)) (List.mem_of_getElem? (i := 8) rfl) (List.mem_of_getElem? (i := 3) rfl) (fun w hw => hts w (List.mem_cons_of_mem _ (List.mem_append.mpr (Or.inr hw)))) (by decide +kernel) (by decide +kernel) hS (hl.1.trans hml.symm) dX4_route_53 dX4_route_56 dX4_route_57 dX4_route_59 dX4_route_62 hnx (Nat.le_of_ble_eq_true rfl) (Nat.le_of_ble_eq_true rfl) (Nat.le_of_ble_eq_true rfl) (Nat.le_of_ble_eq_true rfl) hlocks (Nat.le_of_ble_eq_true rfl) (Nat.le_of_ble_eq_true rfl) hW (⟨2, 0, Or.inr ⟨⟨h_1, h_8, h_19, c_27⟩, Or.inl ⟨e_43, rfl⟩⟩, Or.inr ⟨rfl, rfl⟩⟩)
        · skip
          exact ck_throw (cls := "java/lang/IllegalArgumentException") (text := "a parameter of the route is out of range") hx hb hlt hown hKK0 (by decide +kernel) (by decide +kernel) (hts _ (List.mem_of_getElem? (i := 1) rfl)) (hts _ (List.mem_of_getElem? (i := 2) rfl)) (List.mem_of_getElem? (i := 16) rfl) (List.mem_of_getElem? (i := 0) rfl) (fun w hw => hts w (List.mem_cons_of_mem _ (List.mem_append.mpr (Or.inl (List.mem_append.mpr (Or.inr hw)))))) (by decide +kernel) (by decide +kernel) hS (hl.1.trans hml.symm) dX4_route_30 dX4_route_33 dX4_route_34 dX4_route_36 dX4_route_39 hnx (Nat.le_of_ble_eq_true rfl) (Nat.le_of_ble_eq_true rfl) (Nat.le_of_ble_eq_true rfl) (Nat.le_of_ble_eq_true rfl) hlocks (Nat.le_of_ble_eq_true rfl) (Nat.le_of_ble_eq_true rfl) hW (⟨1, 0, Or.inl ⟨fun z => c_27 z.2.2.2, rfl⟩, Or.inl ⟨rfl, rfl⟩⟩)
      · skip
        refine lv_if_eq (tgt := 30) hx hb dX4_route_22 (by decide) (fun _ => ?_) (fun c_22 => absurd (by decide) c_22)
        exact ck_throw (cls := "java/lang/IllegalArgumentException") (text := "a parameter of the route is out of range") hx hb hlt hown hKK0 (by decide +kernel) (by decide +kernel) (hts _ (List.mem_of_getElem? (i := 1) rfl)) (hts _ (List.mem_of_getElem? (i := 2) rfl)) (List.mem_of_getElem? (i := 16) rfl) (List.mem_of_getElem? (i := 0) rfl) (fun w hw => hts w (List.mem_cons_of_mem _ (List.mem_append.mpr (Or.inl (List.mem_append.mpr (Or.inr hw)))))) (by decide +kernel) (by decide +kernel) hS (hl.1.trans hml.symm) dX4_route_30 dX4_route_33 dX4_route_34 dX4_route_36 dX4_route_39 hnx (Nat.le_of_ble_eq_true rfl) (Nat.le_of_ble_eq_true rfl) (Nat.le_of_ble_eq_true rfl) (Nat.le_of_ble_eq_true rfl) hlocks (Nat.le_of_ble_eq_true rfl) (Nat.le_of_ble_eq_true rfl) hW (⟨1, 0, Or.inl ⟨fun z => h_19 z.2.2.1, rfl⟩, Or.inl ⟨rfl, rfl⟩⟩)
    · skip
      refine lv_if_eq (tgt := 30) hx hb dX4_route_11 (by decide) (fun _ => ?_) (fun c_11 => absurd (by decide) c_11)
      exact ck_throw (cls := "java/lang/IllegalArgumentException") (text := "a parameter of the route is out of range") hx hb hlt hown hKK0 (by decide +kernel) (by decide +kernel) (hts _ (List.mem_of_getElem? (i := 1) rfl)) (hts _ (List.mem_of_getElem? (i := 2) rfl)) (List.mem_of_getElem? (i := 16) rfl) (List.mem_of_getElem? (i := 0) rfl) (fun w hw => hts w (List.mem_cons_of_mem _ (List.mem_append.mpr (Or.inl (List.mem_append.mpr (Or.inr hw)))))) (by decide +kernel) (by decide +kernel) hS (hl.1.trans hml.symm) dX4_route_30 dX4_route_33 dX4_route_34 dX4_route_36 dX4_route_39 hnx (Nat.le_of_ble_eq_true rfl) (Nat.le_of_ble_eq_true rfl) (Nat.le_of_ble_eq_true rfl) (Nat.le_of_ble_eq_true rfl) hlocks (Nat.le_of_ble_eq_true rfl) (Nat.le_of_ble_eq_true rfl) hW (⟨1, 0, Or.inl ⟨fun z => h_8 z.2.1, rfl⟩, Or.inl ⟨rfl, rfl⟩⟩)
  · skip
    refine lv_if_eq (tgt := 30) hx hb dX4_route_4 (by decide) (fun _ => ?_) (fun c_4 => absurd (by decide) c_4)
    exact ck_throw (cls := "java/lang/IllegalArgumentException") (text := "a parameter of the route is out of range") hx hb hlt hown hKK0 (by decide +kernel) (by decide +kernel) (hts _ (List.mem_of_getElem? (i := 1) rfl)) (hts _ (List.mem_of_getElem? (i := 2) rfl)) (List.mem_of_getElem? (i := 16) rfl) (List.mem_of_getElem? (i := 0) rfl) (fun w hw => hts w (List.mem_cons_of_mem _ (List.mem_append.mpr (Or.inl (List.mem_append.mpr (Or.inr hw)))))) (by decide +kernel) (by decide +kernel) hS (hl.1.trans hml.symm) dX4_route_30 dX4_route_33 dX4_route_34 dX4_route_36 dX4_route_39 hnx (Nat.le_of_ble_eq_true rfl) (Nat.le_of_ble_eq_true rfl) (Nat.le_of_ble_eq_true rfl) (Nat.le_of_ble_eq_true rfl) hlocks (Nat.le_of_ble_eq_true rfl) (Nat.le_of_ble_eq_true rfl) hW (⟨1, 0, Or.inl ⟨fun z => h_1 z.1, rfl⟩, Or.inl ⟨rfl, rfl⟩⟩)
set_option maxHeartbeats 4000000 in
set_option maxRecDepth 100000 in
theorem ct_X4_total (l : Launch) (G : ck_G) (H : Heap) (ad : Nat → Nat) (N : Nat → Prop) (F : Nat → va_E) (hW : ck_W G ad N F H) (V : Nat → Nat → Int32) (L : Nat → Nat → Int64) (nc nr : Nat) (hC : ck_C G ad V L nc nr N F) (hlt : l.stackTraces = false) (a0 : Int32) : vx_Met l yX4_total wsX4_total ({ frames := 6, cells := 1, slots := 6, locals := 90 }) (ck_P G H [.ref (ad 0), .int a0]) (ck_Qi G (fun r H1 => ck_Rsum (fun q => ck_tt V q nc) a0 0 r ∧ ck_W G ad N F H1)) (ck_Xc G (fun E => ∃ k r, ck_Rsum (fun q => ck_tt V q nc) a0 k r ∧ ck_ex1 ck_IAE k E) ad N F) 1 6 (ck_A G) := by
  refine vx_ofW (cc := cX4_total) (maxL := 7) (ret := (some .int)) (by decide) rfl ?_
  intro p e s m args below meth c s₁ B hml hnx hv
  obtain ⟨rfl, hH, hKK⟩ := hv
  subst hH
  have hx := B.exec
  have hb := B.bytes
  have hr := B.returns
  have hts := atoms_spec (ws := wsX4_total) B.pre
  have hown : s.vm.findClass RX4 = some m.cls := findClass_of_methodNamed B.named
  have hlocks := B.notSynchronized
  have hKK0 := hKK
  have hK := hKK.1.1
  have hS : va_S (ck_A G) s.heap s.heap [] := va_S.rf
  have hinX4 : ∀ w ∈ u_ws RX4 TX4 8, w ∈ wsX4_total := by decide +kernel
  have hinX0 : ∀ w ∈ u_ws RX0 TX0 8, w ∈ wsX4_total := by decide +kernel
  have hl := lv_entry ([.ref (ad 0), .int a0]) (n := 7) (Nat.le_of_ble_eq_true rfl)
  rw [lg_entry_eq]
  generalize (lg_sl ([.ref (ad 0), .int a0]) ++ List.replicate (7 - (lg_sl ([.ref (ad 0), .int a0])).length) Slot.unset).toArray = ls at hl ⊢
  have hl : lv_has ls 7 [(0, .ref (ad 0)), (1, .int a0)] := hl
  have hsm : ck_sD F F := fun _ _ _ => rfl
  obtain ⟨g2, hG2, hg2⟩ := hC.f2
  refine lv_iload_n hx hb dX4_total_0 rfl (lv_at hl 1 rfl) ?_
  refine ck_cSi (As := [.int a0]) (rest := []) ⟨hx, hb, hml, hown, hts⟩ hKK (ct_X4_isPrefix l G s.heap a0) (va_cwS 1 hts gX4_total_X4_isPrefix rfl rfl rfl (by decide +kernel) ⟨Nat.le_of_ble_eq_true rfl, Nat.le_of_ble_eq_true rfl⟩) rfl hl rfl (Nat.le_of_ble_eq_true rfl) dX4_total_1 ⟨Nat.le_of_ble_eq_true rfl, Nat.le_of_ble_eq_true rfl⟩ (fun r_1 h_1 => ?_)
  rcases h_1 with ⟨h_1, rfl⟩ | ⟨h_1, rfl⟩
  · skip
    refine lv_if_ne (tgt := 17) hx hb dX4_total_4 (by decide) (fun _ => ?_) (fun c_4 => absurd c_4 (by decide))
    refine lv_iconst (v := 0) hx hb dX4_total_17 (by decide) ?_
    refine lv_istore_n (lv' := [(2, .int 0), (0, .ref (ad 0)), (1, .int a0)]) hx hb dX4_total_18 rfl hl (by decide) rfl (fun ls hl => ?_)
    refine lv_aload_n hx hb dX4_total_19 rfl (lv_at hl 1 rfl) ?_
    refine ck_get (v := .ref (ad 2)) hx hb hts hinX4 hown hK hW (hC.n 0 (by decide)) hC.f0 rfl 1 (by decide) (hts _ (List.mem_of_getElem? (i := 3) rfl)) rfl rfl dX4_total_20 ?_
    refine lv_astore_n (lv' := [(3, .ref (ad 2)), (2, .int 0), (0, .ref (ad 0)), (1, .int a0)]) hx hb dX4_total_23 rfl hl (by decide) rfl (fun ls hl => ?_)
    refine lv_aload_n hx hb dX4_total_24 rfl (lv_at hl 0 rfl) ?_
    refine ck_alen (v := 60) hx hb hK hW (hC.n 2 (by decide)) hG2 2 rfl rfl dX4_total_25 ?_
    refine lv_istore (lv' := [(4, .int 60), (3, .ref (ad 2)), (2, .int 0), (0, .ref (ad 0)), (1, .int a0)]) hx hb dX4_total_26 hl (by decide) rfl (fun ls hl => ?_)
    refine lv_iconst (v := 0) hx hb dX4_total_28 (by decide) ?_
    refine lv_istore (lv' := [(5, .int 0), (4, .int 60), (3, .ref (ad 2)), (2, .int 0), (0, .ref (ad 0)), (1, .int a0)]) hx hb dX4_total_29 hl (by decide) rfl (fun ls hl => ?_)
    have hl : lv_has ls 7 [(5, .int 0), (4, .int 60), (3, .ref (ad 2)), (2, .int (ck_tt V a0 (min 0 nc))), (0, .ref (ad 0)), (1, .int a0)] := by rw [Nat.zero_min]; exact hl
    refine ck_loop (P := fun ls => W p l e _ s m _ below meth c _ _ _ _ _ (F0 m _ ls _)) 60 (fun k => [(5, .int (nI k)), (4, .int 60), (3, .ref (ad 2)), (2, .int (ck_tt V a0 (min k nc))), (0, .ref (ad 0)), (1, .int a0)]) (fun k => True) (lv_sub hl [0, 1, 2, 3, 4, 5] rfl) (trivial) ?_ ?_
    · intro ls hl hI31
      have hl : lv_has ls 7 [(5, .int (nI 60)), (4, .int 60), (3, .ref (ad 2)), (2, .int (ck_tt V a0 (min 60 nc))), (0, .ref (ad 0)), (1, .int a0)] := hl
      refine lv_iload hx hb dX4_total_31 (lv_at hl 0 rfl) ?_
      refine lv_iload hx hb dX4_total_33 (lv_at hl 1 rfl) ?_
      refine lv_icmp_ge (tgt := 75) hx hb dX4_total_35 (by decide) (fun _ => ?_) (fun c_35 => absurd (Int32.le_refl _) c_35)
      refine lv_iload_n hx hb dX4_total_75 rfl (lv_at hl 3 rfl) ?_
      refine W.widen (k := 1) (n := 6) (by decide) (by decide) ?_
      exact vx_ret (W.iret (v := (ck_tt V a0 (min 60 nc))) hx hb hr (fun t ht hW9 => ⟨⟨_, rfl, by rw [ht]; exact ⟨Or.inr ⟨h_1, rfl, by rw [show min 60 nc = nc by have := hC.nc; omega]⟩, hW⟩⟩, hS.F ht⟩) hS.2.2 dX4_total_76)
    · intro k31 hk31 hI31 ih31 ls hl
      have hl : lv_has ls 7 [(5, .int (nI k31)), (4, .int 60), (3, .ref (ad 2)), (2, .int (ck_tt V a0 (min k31 nc))), (0, .ref (ad 0)), (1, .int a0)] := hl
      refine lv_iload hx hb dX4_total_31 (lv_at hl 0 rfl) ?_
      refine lv_iload hx hb dX4_total_33 (lv_at hl 1 rfl) ?_
      refine lv_icmp_ge (tgt := 75) hx hb dX4_total_35 (by decide) (fun c_35 => absurd c_35 (nI_ge hk31 (by decide))) (fun _ => ?_)
      refine lv_aload_n hx hb dX4_total_38 rfl (lv_at hl 2 rfl) ?_
      refine lv_iload hx hb dX4_total_39 (lv_at hl 0 rfl) ?_
      by_cases hkn : k31 < nc
      · skip
        refine ck_aald hx hb hK hW (hC.n 2 (by decide)) hG2 2 rfl k31 (rfl) (hk31) (by decide) (r := some (ad (100 + k31))) (by rw [hg2 k31 hk31, if_pos hkn]) dX4_total_41 ?_
        refine lv_astore (lv' := [(6, .ref (ad (100 + k31))), (5, .int (nI k31)), (4, .int 60), (3, .ref (ad 2)), (2, .int (ck_tt V a0 (min k31 nc))), (0, .ref (ad 0)), (1, .int a0)]) hx hb dX4_total_42 hl (by decide) rfl (fun ls hl => ?_)
        refine lv_aload hx hb dX4_total_44 (lv_at hl 0 rfl) ?_
        refine lv_ifnull hx hb dX4_total_46 ?_
        refine lv_iload_n hx hb dX4_total_49 rfl (lv_at hl 6 rfl) ?_
        refine lv_aload hx hb dX4_total_50 (lv_at hl 0 rfl) ?_
        refine ck_get (v := .int (V 0 k31)) hx hb hts hinX0 hown hK hW (hC.ncall k31 hkn) (hC.call k31 hkn) rfl 1 (by decide) (hts _ (List.mem_of_getElem? (i := 4) rfl)) rfl rfl dX4_total_52 ?_
        refine ck_cSi (As := [.int a0, .int (V 0 k31)]) (rest := []) ⟨hx, hb, hml, hown, hts⟩ hKK (ct_X4_fits l G s.heap a0 ((V 0 k31))) (va_cwS 2 hts gX4_total_X4_fits rfl rfl rfl (by decide +kernel) ⟨Nat.le_of_ble_eq_true rfl, Nat.le_of_ble_eq_true rfl⟩) rfl hl rfl (Nat.le_of_ble_eq_true rfl) dX4_total_55 ⟨Nat.le_of_ble_eq_true rfl, Nat.le_of_ble_eq_true rfl⟩ (fun r_55 h_55 => ?_)
        rcases h_55 with ⟨h_55, rfl⟩ | ⟨h_55, rfl⟩
        · skip
          refine lv_if_eq (tgt := 69) hx hb dX4_total_58 (by decide) (fun c_58 => absurd c_58 (by decide)) (fun _ => ?_)
          refine lv_iload_n hx hb dX4_total_61 rfl (lv_at hl 4 rfl) ?_
          refine lv_aload hx hb dX4_total_62 (lv_at hl 0 rfl) ?_
          refine ck_cVi (As := []) (rest := [.int (ck_tt V a0 (min k31 nc))]) ⟨hx, hb, hml, hown, hts⟩ hKK (ct_X0_bookedOrZero l G s.heap ad N F hW (100 + k31) (hC.ncall k31 hkn) ((nI k31)) ((V 0 k31)) ((V 1 k31)) ((V 2 k31)) ((V 3 k31)) ((V 4 k31)) ((V 5 k31)) ((V 6 k31)) (hC.call k31 hkn)) (cwV 0 hts gX4_total_X0_bookedOrZero rfl rfl rfl (by decide +kernel) ⟨Nat.le_of_ble_eq_true rfl, Nat.le_of_ble_eq_true rfl⟩) (ck_recv hK hW (hC.ncall k31 hkn) (hC.call k31 hkn) rfl) rfl hl rfl (Nat.le_of_ble_eq_true rfl) dX4_total_64 ⟨Nat.le_of_ble_eq_true rfl, Nat.le_of_ble_eq_true rfl⟩ (fun r_64 h_64 => ?_)
          subst h_64
          refine lv_iadd hx hb dX4_total_67 ?_
          refine lv_istore_n (lv' := [(2, .int (((ck_tt V a0 (min k31 nc))) + ((ck_bk ((V 5 k31)))))), (6, .ref (ad (100 + k31))), (5, .int (nI k31)), (4, .int 60), (3, .ref (ad 2)), (0, .ref (ad 0)), (1, .int a0)]) hx hb dX4_total_68 rfl hl (by decide) rfl (fun ls hl => ?_)
          refine lv_iinc (v := nI (k31 + 1)) (lv' := [(5, .int (nI (k31 + 1))), (2, .int (((ck_tt V a0 (min k31 nc))) + ((ck_bk ((V 5 k31)))))), (6, .ref (ad (100 + k31))), (4, .int 60), (3, .ref (ad 2)), (0, .ref (ad 0)), (1, .int a0)]) hx hb dX4_total_69 hl (k := 2) rfl (nI_1 k31) (by decide) rfl (fun ls hl => ?_)
          refine lv_goto (tgt := 31) hx hb dX4_total_72 (by decide) ?_
          have e9 := ck_tt_yes hkn h_55
          have hl : lv_has ls 7 [(5, .int (nI (k31 + 1))), (2, .int (ck_tt V a0 (min (k31 + 1) nc))), (6, .ref (ad (100 + k31))), (4, .int 60), (3, .ref (ad 2)), (0, .ref (ad 0)), (1, .int a0)] := by rw [e9]; exact hl
          exact ih31 ls (lv_sub hl [0, 3, 4, 1, 5, 6] rfl) (trivial)
        · skip
          refine lv_if_eq (tgt := 69) hx hb dX4_total_58 (by decide) (fun _ => ?_) (fun c_58 => absurd (by decide) c_58)
          refine lv_iinc (v := nI (k31 + 1)) (lv' := [(5, .int (nI (k31 + 1))), (6, .ref (ad (100 + k31))), (4, .int 60), (3, .ref (ad 2)), (2, .int (ck_tt V a0 (min k31 nc))), (0, .ref (ad 0)), (1, .int a0)]) hx hb dX4_total_69 hl (k := 1) rfl (nI_1 k31) (by decide) rfl (fun ls hl => ?_)
          refine lv_goto (tgt := 31) hx hb dX4_total_72 (by decide) ?_
          have e9 := ck_tt_no hkn h_55
          have hl : lv_has ls 7 [(5, .int (nI (k31 + 1))), (6, .ref (ad (100 + k31))), (4, .int 60), (3, .ref (ad 2)), (2, .int (ck_tt V a0 (min (k31 + 1) nc))), (0, .ref (ad 0)), (1, .int a0)] := by rw [e9]; exact hl
          exact ih31 ls (lv_sub hl [0, 2, 3, 4, 5, 6] rfl) (trivial)
      · skip
        refine ck_aald hx hb hK hW (hC.n 2 (by decide)) hG2 2 rfl k31 (rfl) (hk31) (by decide) (r := none) (by rw [hg2 k31 hk31, if_neg hkn]) dX4_total_41 ?_
        refine lv_astoreN (lv' := [(6, .null), (5, .int (nI k31)), (4, .int 60), (3, .ref (ad 2)), (2, .int (ck_tt V a0 (min k31 nc))), (0, .ref (ad 0)), (1, .int a0)]) hx hb dX4_total_42 hl (by decide) rfl (fun ls hl => ?_)
        refine lv_aloadN hx hb dX4_total_44 (lv_at hl 0 rfl) ?_
        refine lv_ifnullN (tgt := 69) hx hb dX4_total_46 (by decide) ?_
        refine lv_iinc (v := nI (k31 + 1)) (lv' := [(5, .int (nI (k31 + 1))), (6, .null), (4, .int 60), (3, .ref (ad 2)), (2, .int (ck_tt V a0 (min k31 nc))), (0, .ref (ad 0)), (1, .int a0)]) hx hb dX4_total_69 hl (k := 1) rfl (nI_1 k31) (by decide) rfl (fun ls hl => ?_)
        refine lv_goto (tgt := 31) hx hb dX4_total_72 (by decide) ?_
        have e9 := ck_tt_past (V := V) (q := a0) hkn
        have hl : lv_has ls 7 [(5, .int (nI (k31 + 1))), (6, .null), (4, .int 60), (3, .ref (ad 2)), (2, .int (ck_tt V a0 (min (k31 + 1) nc))), (0, .ref (ad 0)), (1, .int a0)] := by rw [e9]; exact hl
        exact ih31 ls (lv_sub hl [0, 2, 3, 4, 5, 6] rfl) (trivial)
  · skip
    refine lv_if_ne (tgt := 17) hx hb dX4_total_4 (by decide) (fun c_4 => absurd (by decide) c_4) (fun _ => ?_)
    exact ck_throw (cls := "java/lang/IllegalArgumentException") (text := "the prefix is out of range") hx hb hlt hown hKK0 (by decide +kernel) (by decide +kernel) (hts _ (List.mem_of_getElem? (i := 1) rfl)) (hts _ (List.mem_of_getElem? (i := 2) rfl)) (List.mem_of_getElem? (i := 11) rfl) (List.mem_of_getElem? (i := 0) rfl) (fun w hw => hts w (List.mem_cons_of_mem _ (List.mem_append.mpr (Or.inr hw)))) (by decide +kernel) (by decide +kernel) hS (hl.1.trans hml.symm) dX4_total_7 dX4_total_10 dX4_total_11 dX4_total_13 dX4_total_16 hnx (Nat.le_of_ble_eq_true rfl) (Nat.le_of_ble_eq_true rfl) (Nat.le_of_ble_eq_true rfl) (Nat.le_of_ble_eq_true rfl) hlocks (Nat.le_of_ble_eq_true rfl) (Nat.le_of_ble_eq_true rfl) hW (⟨1, 0, Or.inl ⟨h_1, rfl⟩, ⟨rfl, rfl⟩⟩)
set_option maxHeartbeats 4000000 in
set_option maxRecDepth 100000 in
theorem ct_X4_narrow (l : Launch) (G : ck_G) (H : Heap) (ad : Nat → Nat) (N : Nat → Prop) (F : Nat → va_E) (hW : ck_W G ad N F H) (V : Nat → Nat → Int32) (L : Nat → Nat → Int64) (nc nr : Nat) (hC : ck_C G ad V L nc nr N F) (hlt : l.stackTraces = false) (a0 : Int32) : vx_Met l yX4_narrow wsX4_narrow ({ frames := 6, cells := 1, slots := 6, locals := 112 }) (ck_P G H [.ref (ad 0), .int a0]) (ck_Qi G (fun r H1 => ck_Rnar V nc a0 0 r ∧ ck_W G ad N F H1)) (ck_Xc G (fun E => ∃ k r, ck_Rnar V nc a0 k r ∧ ck_ex1 ck_IAE k E) ad N F) 1 6 (ck_A G) := by
  refine vx_ofW (cc := cX4_narrow) (maxL := 4) (ret := (some .int)) (by decide) rfl ?_
  intro p e s m args below meth c s₁ B hml hnx hv
  obtain ⟨rfl, hH, hKK⟩ := hv
  subst hH
  have hx := B.exec
  have hb := B.bytes
  have hr := B.returns
  have hts := atoms_spec (ws := wsX4_narrow) B.pre
  have hown : s.vm.findClass RX4 = some m.cls := findClass_of_methodNamed B.named
  have hlocks := B.notSynchronized
  have hKK0 := hKK
  have hK := hKK.1.1
  have hS : va_S (ck_A G) s.heap s.heap [] := va_S.rf
  have hl := lv_entry ([.ref (ad 0), .int a0]) (n := 4) (Nat.le_of_ble_eq_true rfl)
  rw [lg_entry_eq]
  generalize (lg_sl ([.ref (ad 0), .int a0]) ++ List.replicate (4 - (lg_sl ([.ref (ad 0), .int a0])).length) Slot.unset).toArray = ls at hl ⊢
  have hl : lv_has ls 4 [(0, .ref (ad 0)), (1, .int a0)] := hl
  have hsm : ck_sD F F := fun _ _ _ => rfl
  refine lv_iload_n hx hb dX4_narrow_0 rfl (lv_at hl 1 rfl) ?_
  refine lv_iconst (v := 1) hx hb dX4_narrow_1 (by decide) ?_
  refine lv_iconst (v := 5) hx hb dX4_narrow_2 (by decide) ?_
  refine ck_cSi (As := [.int a0, .int 1, .int 5]) (rest := []) ⟨hx, hb, hml, hown, hts⟩ hKK (ct_X4_within l G s.heap a0 1 5) (va_cwS 3 hts gX4_narrow_X4_within rfl rfl rfl (by decide +kernel) ⟨Nat.le_of_ble_eq_true rfl, Nat.le_of_ble_eq_true rfl⟩) rfl hl rfl (Nat.le_of_ble_eq_true rfl) dX4_narrow_3 ⟨Nat.le_of_ble_eq_true rfl, Nat.le_of_ble_eq_true rfl⟩ (fun r_3 h_3 => ?_)
  rcases h_3 with ⟨h_3, rfl⟩ | ⟨h_3, rfl⟩
  · skip
    refine lv_if_ne (tgt := 19) hx hb dX4_narrow_6 (by decide) (fun _ => ?_) (fun c_6 => absurd c_6 (by decide))
    refine lv_iconst (v := 0) hx hb dX4_narrow_19 (by decide) ?_
    refine lv_istore_n (lv' := [(2, .int 0), (0, .ref (ad 0)), (1, .int a0)]) hx hb dX4_narrow_20 rfl hl (by decide) rfl (fun ls hl => ?_)
    refine lv_iconst (v := 0) hx hb dX4_narrow_21 (by decide) ?_
    refine lv_istore_n (lv' := [(3, .int 0), (2, .int 0), (0, .ref (ad 0)), (1, .int a0)]) hx hb dX4_narrow_22 rfl hl (by decide) rfl (fun ls hl => ?_)
    obtain ⟨m0, hm5, rfl, hm0⟩ := ck_in5 h_3
    refine ck_loop (P := fun ls => W p l e _ s m _ below meth c _ _ _ _ _ (F0 m _ ls _)) m0 (fun k => [(3, .int (nI k)), (2, .int (ck_nar V nc k)), (0, .ref (ad 0)), (1, .int (nI m0))]) (fun k => True) (lv_sub hl [0, 1, 2, 3] rfl) (trivial) ?_ ?_
    · intro ls hl hI23
      have hl : lv_has ls 4 [(3, .int (nI m0)), (2, .int (ck_nar V nc m0)), (0, .ref (ad 0)), (1, .int (nI m0))] := hl
      refine lv_iload_n hx hb dX4_narrow_23 rfl (lv_at hl 0 rfl) ?_
      refine lv_iload_n hx hb dX4_narrow_24 rfl (lv_at hl 3 rfl) ?_
      refine lv_icmp_ge (tgt := 40) hx hb dX4_narrow_25 (by decide) (fun _ => ?_) (fun c_25 => absurd (Int32.le_refl _) c_25)
      refine lv_iload_n hx hb dX4_narrow_40 rfl (lv_at hl 1 rfl) ?_
      refine W.widen (k := 1) (n := 6) (by decide) (by decide) ?_
      exact vx_ret (W.iret (v := (ck_nar V nc m0)) hx hb hr (fun t ht hW9 => ⟨⟨_, rfl, by rw [ht]; exact ⟨Or.inr ⟨m0, hm5, rfl, hm0, rfl, rfl⟩, hW⟩⟩, hS.F ht⟩) hS.2.2 dX4_narrow_41)
    · intro k23 hk23 hI23 ih23 ls hl
      have hl : lv_has ls 4 [(3, .int (nI k23)), (2, .int (ck_nar V nc k23)), (0, .ref (ad 0)), (1, .int (nI m0))] := hl
      refine lv_iload_n hx hb dX4_narrow_23 rfl (lv_at hl 0 rfl) ?_
      refine lv_iload_n hx hb dX4_narrow_24 rfl (lv_at hl 3 rfl) ?_
      refine lv_icmp_ge (tgt := 40) hx hb dX4_narrow_25 (by decide) (fun c_25 => absurd c_25 (nI_ge hk23 (by omega))) (fun _ => ?_)
      refine lv_aload_n hx hb dX4_narrow_28 rfl (lv_at hl 2 rfl) ?_
      refine lv_iload_n hx hb dX4_narrow_29 rfl (lv_at hl 1 rfl) ?_
      refine ck_cVi (As := [.int (ck_nar V nc k23)]) (rest := []) ⟨hx, hb, hml, hown, hts⟩ hKK (ct_X4_withWorstDigit l G s.heap ad N F hW V L nc nr hC ((ck_nar V nc k23))) (cwV 1 hts gX4_narrow_X4_withWorstDigit rfl rfl rfl (by decide +kernel) ⟨Nat.le_of_ble_eq_true rfl, Nat.le_of_ble_eq_true rfl⟩) (ck_recv hK hW (hC.n 0 (by decide)) hC.f0 rfl) rfl hl rfl (Nat.le_of_ble_eq_true rfl) dX4_narrow_30 ⟨Nat.le_of_ble_eq_true rfl, Nat.le_of_ble_eq_true rfl⟩ (fun r_30 h_30 => ?_)
      subst h_30
      refine lv_istore_n (lv' := [(2, .int (ck_dig V nc ((ck_nar V nc k23)))), (3, .int (nI k23)), (0, .ref (ad 0)), (1, .int (nI m0))]) hx hb dX4_narrow_33 rfl hl (by decide) rfl (fun ls hl => ?_)
      refine lv_iinc (v := nI (k23 + 1)) (lv' := [(3, .int (nI (k23 + 1))), (2, .int (ck_dig V nc ((ck_nar V nc k23)))), (0, .ref (ad 0)), (1, .int (nI m0))]) hx hb dX4_narrow_34 hl (k := 1) rfl (nI_1 k23) (by decide) rfl (fun ls hl => ?_)
      refine lv_goto (tgt := 23) hx hb dX4_narrow_37 (by decide) ?_
      exact ih23 ls (lv_sub hl [0, 1, 2, 3] rfl) (trivial)
  · skip
    refine lv_if_ne (tgt := 19) hx hb dX4_narrow_6 (by decide) (fun c_6 => absurd (by decide) c_6) (fun _ => ?_)
    exact ck_throw (cls := "java/lang/IllegalArgumentException") (text := "the number of digits is out of range") hx hb hlt hown hKK0 (by decide +kernel) (by decide +kernel) (hts _ (List.mem_of_getElem? (i := 1) rfl)) (hts _ (List.mem_of_getElem? (i := 2) rfl)) (List.mem_of_getElem? (i := 19) rfl) (List.mem_of_getElem? (i := 0) rfl) (fun w hw => hts w (List.mem_cons_of_mem _ (List.mem_append.mpr (Or.inr hw)))) (by decide +kernel) (by decide +kernel) hS (hl.1.trans hml.symm) dX4_narrow_9 dX4_narrow_12 dX4_narrow_13 dX4_narrow_15 dX4_narrow_18 hnx (Nat.le_of_ble_eq_true rfl) (Nat.le_of_ble_eq_true rfl) (Nat.le_of_ble_eq_true rfl) (Nat.le_of_ble_eq_true rfl) hlocks (Nat.le_of_ble_eq_true rfl) (Nat.le_of_ble_eq_true rfl) hW (⟨1, 0, Or.inl ⟨h_3, rfl⟩, ⟨rfl, rfl⟩⟩)
def ck_wo (V : Nat → Nat → Int32) : Nat → Option Nat
  | 0 => none
  | k + 1 => some (ck_ws V k)
theorem ck_wo_pos {V : Nat → Nat → Int32} {k b : Nat} (h : 0 < k) (hb : b = ck_ws V (k - 1)) : ck_wo V k = some b := by
  cases k with
  | zero => omega
  | succ k => rw [hb]; rfl
theorem ck_wo_no {V : Nat → Nat → Int32} {k b : Nat} (h : 0 < k) (hb : b = ck_ws V (k - 1)) (c : ¬ ck_dp V b < ck_dp V k) : ck_wo V (k + 1) = some b := by
  cases k with
  | zero => omega
  | succ k =>
    have hb : b = ck_ws V k := hb
    subst hb
    show some (ck_ws V (k + 1)) = _
    simp only [ck_ws]; rw [if_neg c]
theorem ck_wo_yes {V : Nat → Nat → Int32} {k b : Nat} (h : 0 < k) (hb : b = ck_ws V (k - 1)) (c : ck_dp V b < ck_dp V k) : ck_wo V (k + 1) = some k := by
  cases k with
  | zero => omega
  | succ k =>
    have hb : b = ck_ws V k := hb
    subst hb
    show some (ck_ws V (k + 1)) = _
    simp only [ck_ws]; rw [if_pos c]
set_option maxHeartbeats 4000000 in
set_option maxRecDepth 100000 in
theorem ct_X4_worst (l : Launch) (G : ck_G) (H : Heap) (ad : Nat → Nat) (N : Nat → Prop) (F : Nat → va_E) (hW : ck_W G ad N F H) (V : Nat → Nat → Int32) (L : Nat → Nat → Int64) (nc nr : Nat) (hC : ck_C G ad V L nc nr N F) (hlt : l.stackTraces = false) : vx_Met l yX4_worst wsX4_worst ({ frames := 6, cells := 1, slots := 6, locals := 90 }) (ck_P G H [.ref (ad 0)]) (ck_Qi G (fun r H1 => ck_Rworst V nc 0 r ∧ ck_W G ad N F H1)) (ck_Xc G (fun E => ∃ k r, ck_Rworst V nc k r ∧ ck_ex1 ck_NSE k E) ad N F) 1 6 (ck_A G) := by
  refine vx_ofW (cc := cX4_worst) (maxL := 6) (ret := (some .int)) (by decide) rfl ?_
  intro p e s m args below meth c s₁ B hml hnx hv
  obtain ⟨rfl, hH, hKK⟩ := hv
  subst hH
  have hx := B.exec
  have hb := B.bytes
  have hr := B.returns
  have hts := atoms_spec (ws := wsX4_worst) B.pre
  have hown : s.vm.findClass RX4 = some m.cls := findClass_of_methodNamed B.named
  have hlocks := B.notSynchronized
  have hKK0 := hKK
  have hK := hKK.1.1
  have hS : va_S (ck_A G) s.heap s.heap [] := va_S.rf
  have hinX4 : ∀ w ∈ u_ws RX4 TX4 8, w ∈ wsX4_worst := by decide +kernel
  have hinX0 : ∀ w ∈ u_ws RX0 TX0 8, w ∈ wsX4_worst := by decide +kernel
  have hl := lv_entry ([.ref (ad 0)]) (n := 6) (Nat.le_of_ble_eq_true rfl)
  rw [lg_entry_eq]
  generalize (lg_sl ([.ref (ad 0)]) ++ List.replicate (6 - (lg_sl ([.ref (ad 0)])).length) Slot.unset).toArray = ls at hl ⊢
  have hl : lv_has ls 6 [(0, .ref (ad 0))] := hl
  have hsm : ck_sD F F := fun _ _ _ => rfl
  obtain ⟨g2, hG2, hg2⟩ := hC.f2
  refine lv_null hx hb dX4_worst_0 ?_
  refine lv_astore_nN (lv' := [(1, .null), (0, .ref (ad 0))]) hx hb dX4_worst_1 rfl hl (by decide) rfl (fun ls hl => ?_)
  refine lv_aload_n hx hb dX4_worst_2 rfl (lv_at hl 1 rfl) ?_
  refine ck_get (v := .ref (ad 2)) hx hb hts hinX4 hown hK hW (hC.n 0 (by decide)) hC.f0 rfl 1 (by decide) (hts _ (List.mem_of_getElem? (i := 3) rfl)) rfl rfl dX4_worst_3 ?_
  refine lv_astore_n (lv' := [(2, .ref (ad 2)), (1, .null), (0, .ref (ad 0))]) hx hb dX4_worst_6 rfl hl (by decide) rfl (fun ls hl => ?_)
  refine lv_aload_n hx hb dX4_worst_7 rfl (lv_at hl 0 rfl) ?_
  refine ck_alen (v := 60) hx hb hK hW (hC.n 2 (by decide)) hG2 2 rfl rfl dX4_worst_8 ?_
  refine lv_istore_n (lv' := [(3, .int 60), (2, .ref (ad 2)), (1, .null), (0, .ref (ad 0))]) hx hb dX4_worst_9 rfl hl (by decide) rfl (fun ls hl => ?_)
  refine lv_iconst (v := 0) hx hb dX4_worst_10 (by decide) ?_
  refine lv_istore (lv' := [(4, .int 0), (3, .int 60), (2, .ref (ad 2)), (1, .null), (0, .ref (ad 0))]) hx hb dX4_worst_11 hl (by decide) rfl (fun ls hl => ?_)
  have hl : lv_has ls 6 [(4, .int 0), (3, .int 60), (2, .ref (ad 2)), (1, va_rf ((ck_wo V (min 0 nc)).map (fun b => ad (100 + b)))), (0, .ref (ad 0))] := by rw [Nat.zero_min]; exact hl
  refine ck_loop (P := fun ls => W p l e _ s m _ below meth c _ _ _ _ _ (F0 m _ ls _)) 60 (fun k => [(4, .int (nI k)), (3, .int 60), (2, .ref (ad 2)), (1, va_rf ((ck_wo V (min k nc)).map (fun b => ad (100 + b)))), (0, .ref (ad 0))]) (fun k => True) (lv_sub hl [0, 1, 2, 3, 4] rfl) (trivial) ?_ ?_
  · intro ls hl hI13
    have hl : lv_has ls 6 [(4, .int (nI 60)), (3, .int 60), (2, .ref (ad 2)), (1, va_rf ((ck_wo V (min 60 nc)).map (fun b => ad (100 + b)))), (0, .ref (ad 0))] := hl
    refine lv_iload hx hb dX4_worst_13 (lv_at hl 0 rfl) ?_
    refine lv_iload_n hx hb dX4_worst_15 rfl (lv_at hl 1 rfl) ?_
    refine lv_icmp_ge (tgt := 61) hx hb dX4_worst_16 (by decide) (fun _ => ?_) (fun c_16 => absurd (Int32.le_refl _) c_16)
    have e0 : min 60 nc = nc := by have := hC.nc; omega
    rcases Nat.eq_zero_or_pos nc with hz | hz
    · skip
      have e8 : ck_wo V (min 60 nc) = none := by rw [e0, hz]; rfl
      have hl : lv_has ls 6 [(4, .int (nI 60)), (3, .int 60), (2, .ref (ad 2)), (1, .null), (0, .ref (ad 0))] := by rw [e8] at hl; exact hl
      refine lv_aload_nN hx hb dX4_worst_61 rfl (lv_at hl 3 rfl) ?_
      refine lv_ifnonnullN hx hb dX4_worst_62 ?_
      exact ck_throwN (cls := "java/util/NoSuchElementException") (text := "there are no calls") hx hb hlt hown hKK0 (by decide +kernel) (by decide +kernel) (hts _ (List.mem_of_getElem? (i := 1) rfl)) (hts _ (List.mem_of_getElem? (i := 2) rfl)) (List.mem_of_getElem? (i := 20) rfl) (List.mem_of_getElem? (i := 3) rfl) (fun w hw => hts w (List.mem_cons_of_mem _ (List.mem_append.mpr (Or.inr hw)))) (by decide +kernel) (by decide +kernel) hS (hl.1.trans hml.symm) dX4_worst_65 dX4_worst_68 dX4_worst_69 dX4_worst_71 dX4_worst_74 hnx (Nat.le_of_ble_eq_true rfl) (Nat.le_of_ble_eq_true rfl) (Nat.le_of_ble_eq_true rfl) (Nat.le_of_ble_eq_true rfl) hlocks (Nat.le_of_ble_eq_true rfl) (Nat.le_of_ble_eq_true rfl) hW (⟨1, 0, Or.inl ⟨hz, rfl⟩, ⟨rfl, rfl⟩⟩)
    · skip
      obtain ⟨b, hb9⟩ : ∃ b, b = ck_ws V (nc - 1) := ⟨_, rfl⟩
      have e8 : ck_wo V (min 60 nc) = some b := by rw [e0]; exact ck_wo_pos hz hb9
      have hbn : b < nc := by have := ck_ws_le V (nc - 1); omega
      have hl : lv_has ls 6 [(4, .int (nI 60)), (3, .int 60), (2, .ref (ad 2)), (1, .ref (ad (100 + b))), (0, .ref (ad 0))] := by rw [e8] at hl; exact hl
      refine lv_aload_n hx hb dX4_worst_61 rfl (lv_at hl 3 rfl) ?_
      refine lv_ifnonnull (tgt := 75) hx hb dX4_worst_62 (by decide) ?_
      refine lv_aload_n hx hb dX4_worst_75 rfl (lv_at hl 3 rfl) ?_
      refine ck_get (v := .int (nI b)) hx hb hts hinX0 hown hK hW (hC.ncall b hbn) (hC.call b hbn) rfl 0 (by decide) (hts _ (List.mem_of_getElem? (i := 8) rfl)) rfl rfl dX4_worst_76 ?_
      refine W.widen (k := 1) (n := 6) (by decide) (by decide) ?_
      exact vx_ret (W.iret (v := (nI b)) hx hb hr (fun t ht hW9 => ⟨⟨_, rfl, by rw [ht]; exact ⟨Or.inr ⟨hz, rfl, by rw [hb9]⟩, hW⟩⟩, hS.F ht⟩) hS.2.2 dX4_worst_79)
  · intro k13 hk13 hI13 ih13 ls hl
    have hl : lv_has ls 6 [(4, .int (nI k13)), (3, .int 60), (2, .ref (ad 2)), (1, va_rf ((ck_wo V (min k13 nc)).map (fun b => ad (100 + b)))), (0, .ref (ad 0))] := hl
    refine lv_iload hx hb dX4_worst_13 (lv_at hl 0 rfl) ?_
    refine lv_iload_n hx hb dX4_worst_15 rfl (lv_at hl 1 rfl) ?_
    refine lv_icmp_ge (tgt := 61) hx hb dX4_worst_16 (by decide) (fun c_16 => absurd c_16 (nI_ge hk13 (by decide))) (fun _ => ?_)
    refine lv_aload_n hx hb dX4_worst_19 rfl (lv_at hl 2 rfl) ?_
    refine lv_iload hx hb dX4_worst_20 (lv_at hl 0 rfl) ?_
    by_cases hkn : k13 < nc
    · skip
      refine ck_aald hx hb hK hW (hC.n 2 (by decide)) hG2 2 rfl k13 (rfl) (hk13) (by decide) (r := some (ad (100 + k13))) (by rw [hg2 k13 hk13, if_pos hkn]) dX4_worst_22 ?_
      refine lv_astore (lv' := [(5, .ref (ad (100 + k13))), (4, .int (nI k13)), (3, .int 60), (2, .ref (ad 2)), (1, va_rf ((ck_wo V (min k13 nc)).map (fun b => ad (100 + b)))), (0, .ref (ad 0))]) hx hb dX4_worst_23 hl (by decide) rfl (fun ls hl => ?_)
      refine lv_aload hx hb dX4_worst_25 (lv_at hl 0 rfl) ?_
      refine lv_ifnull hx hb dX4_worst_27 ?_
      have e0 : min k13 nc = k13 := by omega
      rcases Nat.eq_zero_or_pos k13 with hz | hz
      · skip
        have e8 : ck_wo V (min k13 nc) = none := by rw [e0, hz]; rfl
        have hl : lv_has ls 6 [(5, .ref (ad (100 + k13))), (4, .int (nI k13)), (3, .int 60), (2, .ref (ad 2)), (1, .null), (0, .ref (ad 0))] := by rw [e8] at hl; exact hl
        refine lv_aload_nN hx hb dX4_worst_30 rfl (lv_at hl 4 rfl) ?_
        refine lv_ifnullN (tgt := 52) hx hb dX4_worst_31 (by decide) ?_
        refine lv_aload hx hb dX4_worst_52 (lv_at hl 0 rfl) ?_
        refine lv_astore_n (lv' := [(1, .ref (ad (100 + k13))), (5, .ref (ad (100 + k13))), (4, .int (nI k13)), (3, .int 60), (2, .ref (ad 2)), (0, .ref (ad 0))]) hx hb dX4_worst_54 rfl hl (by decide) rfl (fun ls hl => ?_)
        refine lv_iinc (v := nI (k13 + 1)) (lv' := [(4, .int (nI (k13 + 1))), (1, .ref (ad (100 + k13))), (5, .ref (ad (100 + k13))), (3, .int 60), (2, .ref (ad 2)), (0, .ref (ad 0))]) hx hb dX4_worst_55 hl (k := 2) rfl (nI_1 k13) (by decide) rfl (fun ls hl => ?_)
        refine lv_goto (tgt := 13) hx hb dX4_worst_58 (by decide) ?_
        have e1 : min (k13 + 1) nc = k13 + 1 := by omega
        have e9 : ck_wo V (min (k13 + 1) nc) = some k13 := by rw [e1]; subst hz; rfl
        have hl : lv_has ls 6 [(4, .int (nI (k13 + 1))), (1, va_rf ((ck_wo V (min (k13 + 1) nc)).map (fun b => ad (100 + b)))), (5, .ref (ad (100 + k13))), (3, .int 60), (2, .ref (ad 2)), (0, .ref (ad 0))] := by rw [e9]; exact hl
        exact ih13 ls (lv_sub hl [0, 3, 4, 1, 5] rfl) (trivial)
      · skip
        obtain ⟨b, hb9⟩ : ∃ b, b = ck_ws V (k13 - 1) := ⟨_, rfl⟩
        have e8 : ck_wo V (min k13 nc) = some b := by rw [e0]; exact ck_wo_pos hz hb9
        have hbn : b < nc := by have := ck_ws_le V (k13 - 1); omega
        have hl : lv_has ls 6 [(5, .ref (ad (100 + k13))), (4, .int (nI k13)), (3, .int 60), (2, .ref (ad 2)), (1, .ref (ad (100 + b))), (0, .ref (ad 0))] := by rw [e8] at hl; exact hl
        refine lv_aload_n hx hb dX4_worst_30 rfl (lv_at hl 4 rfl) ?_
        refine lv_ifnull hx hb dX4_worst_31 ?_
        refine lv_aload hx hb dX4_worst_34 (lv_at hl 0 rfl) ?_
        refine ck_cVi (As := []) (rest := []) ⟨hx, hb, hml, hown, hts⟩ hKK (ct_X0_disputed l G s.heap ad N F hW (100 + k13) (hC.ncall k13 hkn) ((nI k13)) ((V 0 k13)) ((V 1 k13)) ((V 2 k13)) ((V 3 k13)) ((V 4 k13)) ((V 5 k13)) ((V 6 k13)) (hC.call k13 hkn)) (cwV 0 hts gX4_worst_X0_disputed rfl rfl rfl (by decide +kernel) ⟨Nat.le_of_ble_eq_true rfl, Nat.le_of_ble_eq_true rfl⟩) (ck_recv hK hW (hC.ncall k13 hkn) (hC.call k13 hkn) rfl) rfl hl rfl (Nat.le_of_ble_eq_true rfl) dX4_worst_36 ⟨Nat.le_of_ble_eq_true rfl, Nat.le_of_ble_eq_true rfl⟩ (fun r_36 h_36 => ?_)
        subst h_36
        refine va_mabs hx hb (hml.trans hl.1.symm) hown (hts _ (List.mem_of_getElem? (i := 4) rfl)) (hts _ (List.mem_of_getElem? (i := 5) rfl)) (hts _ (List.mem_of_getElem? (i := 6) rfl)) (hts _ (List.mem_of_getElem? (i := 7) rfl)) (Nat.le_of_ble_eq_true rfl) (Nat.le_of_ble_eq_true rfl) (Nat.le_of_ble_eq_true rfl) (Nat.le_of_ble_eq_true rfl) dX4_worst_39 ?_
        refine lv_aload_n hx hb dX4_worst_42 rfl (lv_at hl 4 rfl) ?_
        refine ck_cVi (As := []) (rest := [.int (if 0 ≤ (((V 6 k13)) - ck_bk ((V 5 k13))) then (((V 6 k13)) - ck_bk ((V 5 k13))) else 0 - ((((V 6 k13)) - ck_bk ((V 5 k13)))))]) ⟨hx, hb, hml, hown, hts⟩ hKK (ct_X0_disputed l G s.heap ad N F hW (100 + b) (hC.ncall b hbn) ((nI b)) ((V 0 b)) ((V 1 b)) ((V 2 b)) ((V 3 b)) ((V 4 b)) ((V 5 b)) ((V 6 b)) (hC.call b hbn)) (cwV 0 hts gX4_worst_X0_disputed rfl rfl rfl (by decide +kernel) ⟨Nat.le_of_ble_eq_true rfl, Nat.le_of_ble_eq_true rfl⟩) (ck_recv hK hW (hC.ncall b hbn) (hC.call b hbn) rfl) rfl hl rfl (Nat.le_of_ble_eq_true rfl) dX4_worst_43 ⟨Nat.le_of_ble_eq_true rfl, Nat.le_of_ble_eq_true rfl⟩ (fun r_43 h_43 => ?_)
        subst h_43
        refine va_mabs hx hb (hml.trans hl.1.symm) hown (hts _ (List.mem_of_getElem? (i := 4) rfl)) (hts _ (List.mem_of_getElem? (i := 5) rfl)) (hts _ (List.mem_of_getElem? (i := 6) rfl)) (hts _ (List.mem_of_getElem? (i := 7) rfl)) (Nat.le_of_ble_eq_true rfl) (Nat.le_of_ble_eq_true rfl) (Nat.le_of_ble_eq_true rfl) (Nat.le_of_ble_eq_true rfl) dX4_worst_46 ?_
        refine lv_icmp_le (tgt := 55) hx hb dX4_worst_49 (by decide) (fun c_49 => ?_) (fun c_49 => ?_)
        · skip
          refine lv_iinc (v := nI (k13 + 1)) (lv' := [(4, .int (nI (k13 + 1))), (5, .ref (ad (100 + k13))), (3, .int 60), (2, .ref (ad 2)), (1, .ref (ad (100 + b))), (0, .ref (ad 0))]) hx hb dX4_worst_55 hl (k := 1) rfl (nI_1 k13) (by decide) rfl (fun ls hl => ?_)
          refine lv_goto (tgt := 13) hx hb dX4_worst_58 (by decide) ?_
          have e1 : min (k13 + 1) nc = k13 + 1 := by omega
          have e9 : ck_wo V (min (k13 + 1) nc) = some b := by rw [e1]; exact ck_wo_no hz hb9 (Int32.not_lt.mpr c_49)
          have hl : lv_has ls 6 [(4, .int (nI (k13 + 1))), (5, .ref (ad (100 + k13))), (3, .int 60), (2, .ref (ad 2)), (1, va_rf ((ck_wo V (min (k13 + 1) nc)).map (fun b => ad (100 + b)))), (0, .ref (ad 0))] := by rw [e9]; exact hl
          exact ih13 ls (lv_sub hl [0, 2, 3, 4, 5] rfl) (trivial)
        · skip
          refine lv_aload hx hb dX4_worst_52 (lv_at hl 0 rfl) ?_
          refine lv_astore_n (lv' := [(1, .ref (ad (100 + k13))), (5, .ref (ad (100 + k13))), (4, .int (nI k13)), (3, .int 60), (2, .ref (ad 2)), (0, .ref (ad 0))]) hx hb dX4_worst_54 rfl hl (by decide) rfl (fun ls hl => ?_)
          refine lv_iinc (v := nI (k13 + 1)) (lv' := [(4, .int (nI (k13 + 1))), (1, .ref (ad (100 + k13))), (5, .ref (ad (100 + k13))), (3, .int 60), (2, .ref (ad 2)), (0, .ref (ad 0))]) hx hb dX4_worst_55 hl (k := 2) rfl (nI_1 k13) (by decide) rfl (fun ls hl => ?_)
          refine lv_goto (tgt := 13) hx hb dX4_worst_58 (by decide) ?_
          have e1 : min (k13 + 1) nc = k13 + 1 := by omega
          have e9 : ck_wo V (min (k13 + 1) nc) = some k13 := by rw [e1]; exact ck_wo_yes hz hb9 (Int32.not_le.mp c_49)
          have hl : lv_has ls 6 [(4, .int (nI (k13 + 1))), (1, va_rf ((ck_wo V (min (k13 + 1) nc)).map (fun b => ad (100 + b)))), (5, .ref (ad (100 + k13))), (3, .int 60), (2, .ref (ad 2)), (0, .ref (ad 0))] := by rw [e9]; exact hl
          exact ih13 ls (lv_sub hl [0, 3, 4, 1, 5] rfl) (trivial)
    · skip
      refine ck_aald hx hb hK hW (hC.n 2 (by decide)) hG2 2 rfl k13 (rfl) (hk13) (by decide) (r := none) (by rw [hg2 k13 hk13, if_neg hkn]) dX4_worst_22 ?_
      refine lv_astoreN (lv' := [(5, .null), (4, .int (nI k13)), (3, .int 60), (2, .ref (ad 2)), (1, va_rf ((ck_wo V (min k13 nc)).map (fun b => ad (100 + b)))), (0, .ref (ad 0))]) hx hb dX4_worst_23 hl (by decide) rfl (fun ls hl => ?_)
      refine lv_aloadN hx hb dX4_worst_25 (lv_at hl 0 rfl) ?_
      refine lv_ifnullN (tgt := 55) hx hb dX4_worst_27 (by decide) ?_
      refine lv_iinc (v := nI (k13 + 1)) (lv' := [(4, .int (nI (k13 + 1))), (5, .null), (3, .int 60), (2, .ref (ad 2)), (1, va_rf ((ck_wo V (min k13 nc)).map (fun b => ad (100 + b)))), (0, .ref (ad 0))]) hx hb dX4_worst_55 hl (k := 1) rfl (nI_1 k13) (by decide) rfl (fun ls hl => ?_)
      refine lv_goto (tgt := 13) hx hb dX4_worst_58 (by decide) ?_
      have e9 : min (k13 + 1) nc = min k13 nc := by omega
      have hl : lv_has ls 6 [(4, .int (nI (k13 + 1))), (5, .null), (3, .int 60), (2, .ref (ad 2)), (1, va_rf ((ck_wo V (min (k13 + 1) nc)).map (fun b => ad (100 + b)))), (0, .ref (ad 0))] := by rw [e9]; exact hl
      exact ih13 ls (lv_sub hl [0, 2, 3, 4, 5] rfl) (trivial)
