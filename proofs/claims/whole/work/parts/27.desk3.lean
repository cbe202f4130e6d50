set_option maxHeartbeats 4000000 in
set_option maxRecDepth 100000 in
theorem ct_X4_book (l : Launch) (G : ck_G) (H : Heap) (ad : Nat → Nat) (N : Nat → Prop) (F : Nat → va_E) (hW : ck_W G ad N F H) (V : Nat → Nat → Int32) (L : Nat → Nat → Int64) (nc nr : Nat) (hC : ck_C G ad V L nc nr N F) : Met l yX4_book wsX4_book ({ frames := 3, cells := 0, slots := 0, locals := 72 }) (ck_P G H [.ref (ad 0)]) (ck_Qi G (fun r H1 => ∃ V1 F1, (r = ck_bcn V nr nc ∧ V1 = (va_up V 5 (ck_bkd V nr nc))) ∧ ck_W G ad N F1 H1 ∧ ck_C G ad V1 L nc nr N F1 ∧ ck_sD F F1)) 0 0 (ck_A G) := by
  refine Met.ofW (cc := cX4_book) (maxL := 6) (ret := (some .int)) (by decide) rfl ?_
  intro p e s m args below meth c s₁ B hml hv
  obtain ⟨rfl, hH, hKK⟩ := hv
  subst hH
  have hx := B.exec
  have hb := B.bytes
  have hr := B.returns
  have hts := atoms_spec (ws := wsX4_book) B.pre
  have hown : s.vm.findClass RX4 = some m.cls := findClass_of_methodNamed B.named
  have hlocks := B.notSynchronized
  have hKK0 := hKK
  have hK := hKK.1.1
  have hS : va_S (ck_A G) s.heap s.heap [] := va_S.rf
  have hinX4 : ∀ w ∈ u_ws RX4 TX4 8, w ∈ wsX4_book := by decide +kernel
  have hinX0 : ∀ w ∈ u_ws RX0 TX0 8, w ∈ wsX4_book := by decide +kernel
  have hl := lv_entry ([.ref (ad 0)]) (n := 6) (Nat.le_of_ble_eq_true rfl)
  rw [lg_entry_eq]
  generalize (lg_sl ([.ref (ad 0)]) ++ List.replicate (6 - (lg_sl ([.ref (ad 0)])).length) Slot.unset).toArray = ls at hl ⊢
  have hl : lv_has ls 6 [(0, .ref (ad 0))] := hl
  have hsm : ck_sD F F := fun _ _ _ => rfl
  obtain ⟨g2, hG2, hg2⟩ := hC.f2
  refine lv_iconst (v := 0) hx hb dX4_book_0 (by decide) ?_
  refine lv_istore_n (lv' := [(1, .int 0), (0, .ref (ad 0))]) hx hb dX4_book_1 rfl hl (by decide) rfl (fun ls hl => ?_)
  refine lv_aload_n hx hb dX4_book_2 rfl (lv_at hl 1 rfl) ?_
  refine ck_get (v := .ref (ad 2)) hx hb hts hinX4 hown hK hW (hC.n 0 (by decide)) hC.f0 rfl 1 (by decide) (hts _ (List.mem_of_getElem? (i := 1) rfl)) rfl rfl dX4_book_3 ?_
  refine lv_astore_n (lv' := [(2, .ref (ad 2)), (1, .int 0), (0, .ref (ad 0))]) hx hb dX4_book_6 rfl hl (by decide) rfl (fun ls hl => ?_)
  refine lv_aload_n hx hb dX4_book_7 rfl (lv_at hl 0 rfl) ?_
  refine ck_alen (v := 60) hx hb hK hW (hC.n 2 (by decide)) hG2 2 rfl rfl dX4_book_8 ?_
  refine lv_istore_n (lv' := [(3, .int 60), (2, .ref (ad 2)), (1, .int 0), (0, .ref (ad 0))]) hx hb dX4_book_9 rfl hl (by decide) rfl (fun ls hl => ?_)
  refine lv_iconst (v := 0) hx hb dX4_book_10 (by decide) ?_
  refine lv_istore (lv' := [(4, .int 0), (3, .int 60), (2, .ref (ad 2)), (1, .int 0), (0, .ref (ad 0))]) hx hb dX4_book_11 hl (by decide) rfl (fun ls hl => ?_)
  have hC : ck_C G ad (va_up V 5 (ck_bkd V nr (min 0 nc))) L nc nr N F := by rw [Nat.zero_min, ck_bkd_0, ck_up_self]; exact hC
  have hl : lv_has ls 6 [(4, .int 0), (3, .int 60), (2, .ref (ad 2)), (1, .int (ck_bcn V nr (min 0 nc))), (0, .ref (ad 0))] := by rw [Nat.zero_min]; exact hl
  refine ck_loopW (P := fun ls H locs => W p l e _ s m _ below meth c H locs _ _ _ (F0 m _ ls _)) 60 (fun k => [(4, .int (nI k)), (3, .int 60), (2, .ref (ad 2)), (1, .int (ck_bcn V nr (min k nc))), (0, .ref (ad 0))]) (fun k H locs => va_S (ck_A G) s.heap H locs ∧ ∃ F1, ck_W G ad N F1 H ∧ ck_C G ad (va_up V 5 (ck_bkd V nr (min k nc))) L nc nr N F1 ∧ ck_sD F F1) (lv_sub hl [0, 1, 2, 3, 4] rfl) ⟨hS, F, hW, hC, hsm⟩ ?_ ?_
  · intro ls H locs hl hI13
    obtain ⟨hS, F_exit13, hW, hC, hsm⟩ := hI13
    have hl : lv_has ls 6 [(4, .int (nI 60)), (3, .int 60), (2, .ref (ad 2)), (1, .int (ck_bcn V nr (min 60 nc))), (0, .ref (ad 0))] := hl
    have e0 : min 60 nc = nc := by have := hC.nc; omega
    rw [e0] at hl hC
    have hKK := hKK0.keep hS.2.1
    obtain ⟨g2, hG2, hg2⟩ := hC.f2
    refine lv_iload hx hb dX4_book_13 (lv_at hl 0 rfl) ?_
    refine lv_iload_n hx hb dX4_book_15 rfl (lv_at hl 1 rfl) ?_
    refine lv_icmp_ge (tgt := 71) hx hb dX4_book_16 (by decide) (fun _ => ?_) (fun c_16 => absurd (Int32.le_refl _) c_16)
    refine lv_iload_n hx hb dX4_book_71 rfl (lv_at hl 3 rfl) ?_
    exact W.iret (v := (ck_bcn V nr nc)) hx hb hr (fun t ht hW9 => ⟨⟨_, rfl, by rw [ht]; exact ⟨_, F_exit13, ⟨rfl, rfl⟩, hW, hC, hsm⟩⟩, hS.F ht⟩) hS.2.2 dX4_book_72
  · intro k13 hk13 ih13 ls H locs hl hI13
    obtain ⟨hS, F_step13, hW, hC, hsm⟩ := hI13
    have hl : lv_has ls 6 [(4, .int (nI k13)), (3, .int 60), (2, .ref (ad 2)), (1, .int (ck_bcn V nr (min k13 nc))), (0, .ref (ad 0))] := hl
    have hKK := hKK0.keep hS.2.1
    obtain ⟨g2, hG2, hg2⟩ := hC.f2
    refine lv_iload hx hb dX4_book_13 (lv_at hl 0 rfl) ?_
    refine lv_iload_n hx hb dX4_book_15 rfl (lv_at hl 1 rfl) ?_
    refine lv_icmp_ge (tgt := 71) hx hb dX4_book_16 (by decide) (fun c_16 => absurd c_16 (nI_ge hk13 (by decide))) (fun _ => ?_)
    refine lv_aload_n hx hb dX4_book_19 rfl (lv_at hl 2 rfl) ?_
    refine lv_iload hx hb dX4_book_20 (lv_at hl 0 rfl) ?_
    by_cases hkn : k13 < nc
    · skip
      have e0 : min k13 nc = k13 := by omega
      rw [e0] at hl hC
      refine ck_aald hx hb hK hW (hC.n 2 (by decide)) hG2 2 rfl k13 (rfl) (hk13) (by decide) (r := some (ad (100 + k13))) (by rw [hg2 k13 hk13, if_pos hkn]) dX4_book_22 ?_
      refine lv_astore (lv' := [(5, .ref (ad (100 + k13))), (4, .int (nI k13)), (3, .int 60), (2, .ref (ad 2)), (1, .int (ck_bcn V nr k13)), (0, .ref (ad 0))]) hx hb dX4_book_23 hl (by decide) rfl (fun ls hl => ?_)
      refine lv_aload hx hb dX4_book_25 (lv_at hl 0 rfl) ?_
      refine lv_ifnull hx hb dX4_book_27 ?_
      refine lv_aload hx hb dX4_book_30 (lv_at hl 0 rfl) ?_
      refine ck_cVi (As := []) (rest := []) ⟨hx, hb, hml, hown, hts⟩ hKK (ct_X0_isBooked l G H ad N F_step13 hW (100 + k13) (hC.ncall k13 hkn) ((nI k13)) ((V 0 k13)) ((V 1 k13)) ((V 2 k13)) ((V 3 k13)) ((V 4 k13)) ((ck_bkd V nr k13 k13)) ((V 6 k13)) (hC.call k13 hkn)) (cwV 0 hts gX4_book_X0_isBooked rfl rfl rfl (by decide +kernel) ⟨Nat.le_of_ble_eq_true rfl, Nat.le_of_ble_eq_true rfl⟩) (ck_recv hK hW (hC.ncall k13 hkn) (hC.call k13 hkn) rfl) rfl hl rfl (Nat.le_of_ble_eq_true rfl) dX4_book_32 ⟨Nat.le_of_ble_eq_true rfl, Nat.le_of_ble_eq_true rfl⟩ (fun r_32 h_32 => ?_)
      rcases h_32 with ⟨h_32, rfl⟩ | ⟨h_32, rfl⟩
      · skip
        refine lv_if_ne (tgt := 65) hx hb dX4_book_35 (by decide) (fun _ => ?_) (fun c_35 => absurd c_35 (by decide))
        refine lv_iinc (v := nI (k13 + 1)) (lv' := [(4, .int (nI (k13 + 1))), (5, .ref (ad (100 + k13))), (3, .int 60), (2, .ref (ad 2)), (1, .int (ck_bcn V nr k13)), (0, .ref (ad 0))]) hx hb dX4_book_65 hl (k := 1) rfl (nI_1 k13) (by decide) rfl (fun ls hl => ?_)
        refine lv_goto (tgt := 13) hx hb dX4_book_68 (by decide) ?_
        have e1 : min (k13 + 1) nc = k13 + 1 := by omega
        have b35 : ¬ V 5 k13 = -1 := fun z => h_32 ((ck_bkd_at V nr k13).trans z)
        have hC : ck_C G ad (va_up V 5 (ck_bkd V nr (min (k13 + 1) nc))) L nc nr N F_step13 := by rw [e1, ck_bkd_no b35]; exact hC
        have e9 : ck_bcn V nr (min (k13 + 1) nc) = ck_bcn V nr k13 := by rw [e1]; simp only [ck_bcn]; rw [if_neg (fun z => b35 z.1)]
        have hl : lv_has ls 6 [(4, .int (nI (k13 + 1))), (5, .ref (ad (100 + k13))), (3, .int 60), (2, .ref (ad 2)), (1, .int (ck_bcn V nr (min (k13 + 1) nc))), (0, .ref (ad 0))] := by rw [e9]; exact hl
        exact ih13 ls H locs (lv_sub hl [0, 2, 3, 4, 5] rfl) ⟨hS, F_step13, hW, hC, hsm⟩
      · skip
        refine lv_if_ne (tgt := 65) hx hb dX4_book_35 (by decide) (fun c_35 => absurd (by decide) c_35) (fun _ => ?_)
        refine lv_aload hx hb dX4_book_38 (lv_at hl 0 rfl) ?_
        refine lv_aload_n hx hb dX4_book_40 rfl (lv_at hl 5 rfl) ?_
        refine lv_aload hx hb dX4_book_41 (lv_at hl 0 rfl) ?_
        refine ck_cVi (As := [.ref (ad (100 + k13))]) (rest := [.ref (ad (100 + k13))]) ⟨hx, hb, hml, hown, hts⟩ hKK (ct_X4_chargeNow l G H ad N F_step13 hW (va_up V 5 (ck_bkd V nr k13)) L nc nr hC k13 hkn) (cwV 1 hts gX4_book_X4_chargeNow rfl rfl rfl (by decide +kernel) ⟨Nat.le_of_ble_eq_true rfl, Nat.le_of_ble_eq_true rfl⟩) (ck_recv hK hW (hC.n 0 (by decide)) hC.f0 rfl) rfl hl rfl (Nat.le_of_ble_eq_true rfl) dX4_book_43 ⟨Nat.le_of_ble_eq_true rfl, Nat.le_of_ble_eq_true rfl⟩ (fun r_43 h_43 => ?_)
        subst h_43
        refine lv_topi (fun y9 ey9 => ?_)
        have ey8 : y9 = ck_now V nr k13 := ey9.trans (ck_now_5 _ _ _ _)
        subst ey8
        refine ck_put (v := .int (ck_now V nr k13)) (ty := .int) hx hb hts hinX0 tyX0 tyX0_ok nmX0 hown hK hW hS (hC.ncall k13 hkn) (hC.call k13 hkn) rfl 6 (by decide) (hts _ (List.mem_of_getElem? (i := 2) rfl)) rfl rfl (by decide +kernel) rfl rfl (Nat.le_of_ble_eq_true rfl) dX4_book_46 (fun H locs hW hS hz46 => ?_)
        obtain ⟨F_46, hFe46, hFo46, hW⟩ := ck_name hW
        have hC := hC.set5 hkn hFe46 hFo46
        obtain ⟨g2, hG2, hg2⟩ := hC.f2
        have hsm := hsm.put (by omega) hFo46
        have hKK := hKK0.keep hS.2.1
        refine lv_iload_n hx hb dX4_book_49 rfl (lv_at hl 4 rfl) ?_
        refine lv_aload hx hb dX4_book_50 (lv_at hl 0 rfl) ?_
        refine ck_cVi (As := []) (rest := [.int (ck_bcn V nr k13)]) ⟨hx, hb, hml, hown, hts⟩ hKK (ct_X0_isBooked l G H ad N F_46 hW (100 + k13) (hC.ncall k13 hkn) ((nI k13)) ((V 0 k13)) ((V 1 k13)) ((V 2 k13)) ((V 3 k13)) ((V 4 k13)) ((ck_now V nr k13)) ((V 6 k13)) hFe46) (cwV 0 hts gX4_book_X0_isBooked rfl rfl rfl (by decide +kernel) ⟨Nat.le_of_ble_eq_true rfl, Nat.le_of_ble_eq_true rfl⟩) (ck_recv hK hW (hC.ncall k13 hkn) hFe46 rfl) rfl hl rfl (Nat.le_of_ble_eq_true rfl) dX4_book_52 ⟨Nat.le_of_ble_eq_true rfl, Nat.le_of_ble_eq_true rfl⟩ (fun r_52 h_52 => ?_)
        rcases h_52 with ⟨h_52, rfl⟩ | ⟨h_52, rfl⟩
        · skip
          refine lv_if_eq (tgt := 62) hx hb dX4_book_55 (by decide) (fun c_55 => absurd c_55 (by decide)) (fun _ => ?_)
          refine lv_iconst (v := 1) hx hb dX4_book_58 (by decide) ?_
          refine lv_goto (tgt := 63) hx hb dX4_book_59 (by decide) ?_
          refine lv_iadd hx hb dX4_book_63 ?_
          refine lv_istore_n (lv' := [(1, .int (((ck_bcn V nr k13)) + 1)), (5, .ref (ad (100 + k13))), (4, .int (nI k13)), (3, .int 60), (2, .ref (ad 2)), (0, .ref (ad 0))]) hx hb dX4_book_64 rfl hl (by decide) rfl (fun ls hl => ?_)
          refine lv_iinc (v := nI (k13 + 1)) (lv' := [(4, .int (nI (k13 + 1))), (1, .int (((ck_bcn V nr k13)) + 1)), (5, .ref (ad (100 + k13))), (3, .int 60), (2, .ref (ad 2)), (0, .ref (ad 0))]) hx hb dX4_book_65 hl (k := 2) rfl (nI_1 k13) (by decide) rfl (fun ls hl => ?_)
          refine lv_goto (tgt := 13) hx hb dX4_book_68 (by decide) ?_
          have e1 : min (k13 + 1) nc = k13 + 1 := by omega
          have b35 : V 5 k13 = -1 := (ck_bkd_at V nr k13).symm.trans (Decidable.not_not.mp h_32)
          have hC : ck_C G ad (va_up V 5 (ck_bkd V nr (min (k13 + 1) nc))) L nc nr N F_46 := by rw [e1, ← ck_bkd_yes b35, ← ck_up2 V 5 (ck_bkd V nr k13)]; exact hC
          have e9 : ck_bcn V nr (min (k13 + 1) nc) = ck_bcn V nr k13 + 1 := by rw [e1]; simp only [ck_bcn]; rw [if_pos ⟨b35, h_52⟩]
          have hl : lv_has ls 6 [(4, .int (nI (k13 + 1))), (1, .int (ck_bcn V nr (min (k13 + 1) nc))), (5, .ref (ad (100 + k13))), (3, .int 60), (2, .ref (ad 2)), (0, .ref (ad 0))] := by rw [e9]; exact hl
          exact ih13 ls H locs (lv_sub hl [0, 3, 4, 1, 5] rfl) ⟨hS, F_46, hW, hC, hsm⟩
        · skip
          refine lv_if_eq (tgt := 62) hx hb dX4_book_55 (by decide) (fun _ => ?_) (fun c_55 => absurd (by decide) c_55)
          refine lv_iconst (v := 0) hx hb dX4_book_62 (by decide) ?_
          refine lv_iadd hx hb dX4_book_63 ?_
          refine lv_istore_n (lv' := [(1, .int (((ck_bcn V nr k13)) + 0)), (5, .ref (ad (100 + k13))), (4, .int (nI k13)), (3, .int 60), (2, .ref (ad 2)), (0, .ref (ad 0))]) hx hb dX4_book_64 rfl hl (by decide) rfl (fun ls hl => ?_)
          refine lv_iinc (v := nI (k13 + 1)) (lv' := [(4, .int (nI (k13 + 1))), (1, .int (((ck_bcn V nr k13)) + 0)), (5, .ref (ad (100 + k13))), (3, .int 60), (2, .ref (ad 2)), (0, .ref (ad 0))]) hx hb dX4_book_65 hl (k := 2) rfl (nI_1 k13) (by decide) rfl (fun ls hl => ?_)
          refine lv_goto (tgt := 13) hx hb dX4_book_68 (by decide) ?_
          have e1 : min (k13 + 1) nc = k13 + 1 := by omega
          have b35 : V 5 k13 = -1 := (ck_bkd_at V nr k13).symm.trans (Decidable.not_not.mp h_32)
          have hC : ck_C G ad (va_up V 5 (ck_bkd V nr (min (k13 + 1) nc))) L nc nr N F_46 := by rw [e1, ← ck_bkd_yes b35, ← ck_up2 V 5 (ck_bkd V nr k13)]; exact hC
          have e9 : ck_bcn V nr (min (k13 + 1) nc) = ck_bcn V nr k13 + 0 := by rw [e1]; simp only [ck_bcn]; rw [if_neg (fun z => h_52 z.2), Int32.add_zero]
          have hl : lv_has ls 6 [(4, .int (nI (k13 + 1))), (1, .int (ck_bcn V nr (min (k13 + 1) nc))), (5, .ref (ad (100 + k13))), (3, .int 60), (2, .ref (ad 2)), (0, .ref (ad 0))] := by rw [e9]; exact hl
          exact ih13 ls H locs (lv_sub hl [0, 3, 4, 1, 5] rfl) ⟨hS, F_46, hW, hC, hsm⟩
    · skip
      refine ck_aald hx hb hK hW (hC.n 2 (by decide)) hG2 2 rfl k13 (rfl) (hk13) (by decide) (r := none) (by rw [hg2 k13 hk13, if_neg hkn]) dX4_book_22 ?_
      refine lv_astoreN (lv' := [(5, .null), (4, .int (nI k13)), (3, .int 60), (2, .ref (ad 2)), (1, .int (ck_bcn V nr (min k13 nc))), (0, .ref (ad 0))]) hx hb dX4_book_23 hl (by decide) rfl (fun ls hl => ?_)
      refine lv_aloadN hx hb dX4_book_25 (lv_at hl 0 rfl) ?_
      refine lv_ifnullN (tgt := 65) hx hb dX4_book_27 (by decide) ?_
      refine lv_iinc (v := nI (k13 + 1)) (lv' := [(4, .int (nI (k13 + 1))), (5, .null), (3, .int 60), (2, .ref (ad 2)), (1, .int (ck_bcn V nr (min k13 nc))), (0, .ref (ad 0))]) hx hb dX4_book_65 hl (k := 1) rfl (nI_1 k13) (by decide) rfl (fun ls hl => ?_)
      refine lv_goto (tgt := 13) hx hb dX4_book_68 (by decide) ?_
      have e1 : min (k13 + 1) nc = min k13 nc := by omega
      rw [← e1] at hl hC
      exact ih13 ls H locs (lv_sub hl [0, 2, 3, 4, 5] rfl) ⟨hS, F_step13, hW, hC, hsm⟩
theorem ck_cV_5 (V : Nat → Nat → Int32) (nr k : Nat) : ck_cV V nr k 5 = ck_cb5 V nr k := by
  rw [ck_cV, va_up_ne _ _ (by decide), va_up_self]
theorem ck_cV_13 (V : Nat → Nat → Int32) (nr k : Nat) : ck_cV V nr k 13 = upd (V 13) 1 (ck_cct V nr k) := by
  rw [ck_cV, va_up_self]
/-- one step of the corrections: what the class's own method does is the reference's step -/
theorem ck_R1_step {V V1 : Nat → Nat → Int32} {nr k : Nat} {r : Int32} (h5 : ¬ V 5 k = -1) (h : ck_R1 (ck_cV V nr k) nr k r V1) : V1 = ck_cV V nr (k + 1) ∧ ck_csm V nr (k + 1) = ck_csm V nr k + r := by
  have ec : ck_cn V nr k = ck_now V nr k := if_neg h5
  have e0 : ck_now (ck_cV V nr k) nr k = ck_now V nr k := ck_now_cV V nr k k
  have e5 : ck_cV V nr k 5 k = V 5 k := by rw [ck_cV_5]; exact ck_cb5_at V nr k
  unfold ck_R1 at h
  rw [e0, e5] at h
  rcases h with ⟨h1 | h1, rfl, rfl⟩ | ⟨h1, rfl, rfl⟩
  · exact ⟨(ck_cV_no (ec.trans h1)).symm, by simp only [ck_csm]; rw [if_pos (ec.trans h1), Int32.add_zero]⟩
  · have hn : ¬ ck_cn V nr k = -1 := by rw [ec, h1]; exact h5
    refine ⟨?_, by simp only [ck_csm]; rw [if_neg hn, ec, h1, Int32.sub_self]⟩
    have a1 : ck_cb5 V nr (k + 1) = ck_cb5 V nr k := by
      rw [← ck_cb5_yes hn]; funext j; by_cases e : j = k
      · subst e; simp only [upd, if_pos]; rw [ck_cb5_at, ec, h1]
      · simp [upd, e]
    have a2 : ck_cct V nr (k + 1) = ck_cct V nr k := by simp only [ck_cct]; rw [if_pos (Or.inr (ec.trans h1))]
    unfold ck_cV; rw [a1, a2]
  · have hn : ¬ ck_cn V nr k = -1 := by rw [ec]; exact fun z => h1 (Or.inl z)
    refine ⟨?_, by simp only [ck_csm]; rw [if_neg hn, ec]⟩
    have a2 : ck_cct V nr (k + 1) = ck_cct V nr k + 1 := by simp only [ck_cct]; rw [if_neg (by rw [ec]; exact fun z => h1 z)]
    have a3 : upd (V 13) 1 (ck_cct V nr k + 1) = upd (upd (V 13) 1 (ck_cct V nr k)) 1 (upd (V 13) 1 (ck_cct V nr k) 1 + 1) := by
      funext j; by_cases e : j = 1 <;> simp [upd, e]
    rw [ck_cV_5, ck_cV_13, ← a3, ← ec, ck_cb5_yes hn, ← a2]
    funext j; by_cases h5' : j = 5 <;> by_cases h13 : j = 13 <;> simp [ck_cV, va_up, h5', h13]
set_option maxHeartbeats 4000000 in
set_option maxRecDepth 100000 in
theorem ct_X4_correct (l : Launch) (G : ck_G) (H : Heap) (ad : Nat → Nat) (N : Nat → Prop) (F : Nat → va_E) (hW : ck_W G ad N F H) (V : Nat → Nat → Int32) (L : Nat → Nat → Int64) (nc nr : Nat) (hC : ck_C G ad V L nc nr N F) : Met l yX4_correct wsX4_correct ({ frames := 4, cells := 0, slots := 0, locals := 95 }) (ck_P G H [.ref (ad 0)]) (ck_Qi G (fun r H1 => ∃ V1 F1, (r = ck_csm V nr nc ∧ V1 = (ck_cV V nr nc)) ∧ ck_W G ad N F1 H1 ∧ ck_C G ad V1 L nc nr N F1 ∧ ck_sD F F1)) 0 0 (ck_A G) := by
  refine Met.ofW (cc := cX4_correct) (maxL := 6) (ret := (some .int)) (by decide) rfl ?_
  intro p e s m args below meth c s₁ B hml hv
  obtain ⟨rfl, hH, hKK⟩ := hv
  subst hH
  have hx := B.exec
  have hb := B.bytes
  have hr := B.returns
  have hts := atoms_spec (ws := wsX4_correct) B.pre
  have hown : s.vm.findClass RX4 = some m.cls := findClass_of_methodNamed B.named
  have hlocks := B.notSynchronized
  have hKK0 := hKK
  have hK := hKK.1.1
  have hS : va_S (ck_A G) s.heap s.heap [] := va_S.rf
  have hinX4 : ∀ w ∈ u_ws RX4 TX4 8, w ∈ wsX4_correct := by decide +kernel
  have hl := lv_entry ([.ref (ad 0)]) (n := 6) (Nat.le_of_ble_eq_true rfl)
  rw [lg_entry_eq]
  generalize (lg_sl ([.ref (ad 0)]) ++ List.replicate (6 - (lg_sl ([.ref (ad 0)])).length) Slot.unset).toArray = ls at hl ⊢
  have hl : lv_has ls 6 [(0, .ref (ad 0))] := hl
  have hsm : ck_sD F F := fun _ _ _ => rfl
  obtain ⟨g2, hG2, hg2⟩ := hC.f2
  refine lv_iconst (v := 0) hx hb dX4_correct_0 (by decide) ?_
  refine lv_istore_n (lv' := [(1, .int 0), (0, .ref (ad 0))]) hx hb dX4_correct_1 rfl hl (by decide) rfl (fun ls hl => ?_)
  refine lv_aload_n hx hb dX4_correct_2 rfl (lv_at hl 1 rfl) ?_
  refine ck_get (v := .ref (ad 2)) hx hb hts hinX4 hown hK hW (hC.n 0 (by decide)) hC.f0 rfl 1 (by decide) (hts _ (List.mem_of_getElem? (i := 1) rfl)) rfl rfl dX4_correct_3 ?_
  refine lv_astore_n (lv' := [(2, .ref (ad 2)), (1, .int 0), (0, .ref (ad 0))]) hx hb dX4_correct_6 rfl hl (by decide) rfl (fun ls hl => ?_)
  refine lv_aload_n hx hb dX4_correct_7 rfl (lv_at hl 0 rfl) ?_
  refine ck_alen (v := 60) hx hb hK hW (hC.n 2 (by decide)) hG2 2 rfl rfl dX4_correct_8 ?_
  refine lv_istore_n (lv' := [(3, .int 60), (2, .ref (ad 2)), (1, .int 0), (0, .ref (ad 0))]) hx hb dX4_correct_9 rfl hl (by decide) rfl (fun ls hl => ?_)
  refine lv_iconst (v := 0) hx hb dX4_correct_10 (by decide) ?_
  refine lv_istore (lv' := [(4, .int 0), (3, .int 60), (2, .ref (ad 2)), (1, .int 0), (0, .ref (ad 0))]) hx hb dX4_correct_11 hl (by decide) rfl (fun ls hl => ?_)
  have hC : ck_C G ad (ck_cV V nr (min 0 nc)) L nc nr N F := by rw [Nat.zero_min, ck_cV_0]; exact hC
  have hl : lv_has ls 6 [(4, .int 0), (3, .int 60), (2, .ref (ad 2)), (1, .int (ck_csm V nr (min 0 nc))), (0, .ref (ad 0))] := by rw [Nat.zero_min]; exact hl
  refine ck_loopW (P := fun ls H locs => W p l e _ s m _ below meth c H locs _ _ _ (F0 m _ ls _)) 60 (fun k => [(4, .int (nI k)), (3, .int 60), (2, .ref (ad 2)), (1, .int (ck_csm V nr (min k nc))), (0, .ref (ad 0))]) (fun k H locs => va_S (ck_A G) s.heap H locs ∧ ∃ F1, ck_W G ad N F1 H ∧ ck_C G ad (ck_cV V nr (min k nc)) L nc nr N F1 ∧ ck_sD F F1) (lv_sub hl [0, 1, 2, 3, 4] rfl) ⟨hS, F, hW, hC, hsm⟩ ?_ ?_
  · intro ls H locs hl hI13
    obtain ⟨hS, F_exit13, hW, hC, hsm⟩ := hI13
    have hl : lv_has ls 6 [(4, .int (nI 60)), (3, .int 60), (2, .ref (ad 2)), (1, .int (ck_csm V nr (min 60 nc))), (0, .ref (ad 0))] := hl
    have e0 : min 60 nc = nc := by have := hC.nc; omega
    rw [e0] at hl hC
    have hKK := hKK0.keep hS.2.1
    obtain ⟨g2, hG2, hg2⟩ := hC.f2
    refine lv_iload hx hb dX4_correct_13 (lv_at hl 0 rfl) ?_
    refine lv_iload_n hx hb dX4_correct_15 rfl (lv_at hl 1 rfl) ?_
    refine lv_icmp_ge (tgt := 53) hx hb dX4_correct_16 (by decide) (fun _ => ?_) (fun c_16 => absurd (Int32.le_refl _) c_16)
    refine lv_iload_n hx hb dX4_correct_53 rfl (lv_at hl 3 rfl) ?_
    exact W.iret (v := (ck_csm V nr nc)) hx hb hr (fun t ht hW9 => ⟨⟨_, rfl, by rw [ht]; exact ⟨_, F_exit13, ⟨rfl, rfl⟩, hW, hC, hsm⟩⟩, hS.F ht⟩) hS.2.2 dX4_correct_54
  · intro k13 hk13 ih13 ls H locs hl hI13
    obtain ⟨hS, F_step13, hW, hC, hsm⟩ := hI13
    have hl : lv_has ls 6 [(4, .int (nI k13)), (3, .int 60), (2, .ref (ad 2)), (1, .int (ck_csm V nr (min k13 nc))), (0, .ref (ad 0))] := hl
    have hKK := hKK0.keep hS.2.1
    obtain ⟨g2, hG2, hg2⟩ := hC.f2
    refine lv_iload hx hb dX4_correct_13 (lv_at hl 0 rfl) ?_
    refine lv_iload_n hx hb dX4_correct_15 rfl (lv_at hl 1 rfl) ?_
    refine lv_icmp_ge (tgt := 53) hx hb dX4_correct_16 (by decide) (fun c_16 => absurd c_16 (nI_ge hk13 (by decide))) (fun _ => ?_)
    refine lv_aload_n hx hb dX4_correct_19 rfl (lv_at hl 2 rfl) ?_
    refine lv_iload hx hb dX4_correct_20 (lv_at hl 0 rfl) ?_
    by_cases hkn : k13 < nc
    · skip
      have e0 : min k13 nc = k13 := by omega
      rw [e0] at hl hC
      refine ck_aald hx hb hK hW (hC.n 2 (by decide)) hG2 2 rfl k13 (rfl) (hk13) (by decide) (r := some (ad (100 + k13))) (by rw [hg2 k13 hk13, if_pos hkn]) dX4_correct_22 ?_
      refine lv_astore (lv' := [(5, .ref (ad (100 + k13))), (4, .int (nI k13)), (3, .int 60), (2, .ref (ad 2)), (1, .int (ck_csm V nr k13)), (0, .ref (ad 0))]) hx hb dX4_correct_23 hl (by decide) rfl (fun ls hl => ?_)
      refine lv_aload hx hb dX4_correct_25 (lv_at hl 0 rfl) ?_
      refine lv_ifnull hx hb dX4_correct_27 ?_
      refine lv_aload hx hb dX4_correct_30 (lv_at hl 0 rfl) ?_
      refine ck_cVi (As := []) (rest := []) ⟨hx, hb, hml, hown, hts⟩ hKK (ct_X0_isBooked l G H ad N F_step13 hW (100 + k13) (hC.ncall k13 hkn) ((nI k13)) ((V 0 k13)) ((V 1 k13)) ((V 2 k13)) ((V 3 k13)) ((V 4 k13)) ((ck_cb5 V nr k13 k13)) ((V 6 k13)) (hC.call k13 hkn)) (cwV 0 hts gX4_correct_X0_isBooked rfl rfl rfl (by decide +kernel) ⟨Nat.le_of_ble_eq_true rfl, Nat.le_of_ble_eq_true rfl⟩) (ck_recv hK hW (hC.ncall k13 hkn) (hC.call k13 hkn) rfl) rfl hl rfl (Nat.le_of_ble_eq_true rfl) dX4_correct_32 ⟨Nat.le_of_ble_eq_true rfl, Nat.le_of_ble_eq_true rfl⟩ (fun r_32 h_32 => ?_)
      rcases h_32 with ⟨h_32, rfl⟩ | ⟨h_32, rfl⟩
      · skip
        refine lv_if_eq (tgt := 47) hx hb dX4_correct_35 (by decide) (fun c_35 => absurd c_35 (by decide)) (fun _ => ?_)
        refine lv_iload_n hx hb dX4_correct_38 rfl (lv_at hl 4 rfl) ?_
        refine lv_aload_n hx hb dX4_correct_39 rfl (lv_at hl 5 rfl) ?_
        refine lv_aload hx hb dX4_correct_40 (lv_at hl 0 rfl) ?_
        refine ck_cVw (As := [.ref (ad (100 + k13))]) (rest := [.int (ck_csm V nr k13)]) ⟨hx, hb, hml, hown, hts⟩ hKK (ct_X4_changeByCorrecting l G H ad N F_step13 hW (ck_cV V nr k13) L nc nr hC k13 hkn) (cwV 1 hts gX4_correct_X4_changeByCorrecting rfl rfl rfl (by decide +kernel) ⟨Nat.le_of_ble_eq_true rfl, Nat.le_of_ble_eq_true rfl⟩) (ck_recv hK hW (hC.n 0 (by decide)) hC.f0 rfl) rfl hl rfl (Nat.le_of_ble_eq_true rfl) dX4_correct_42 ⟨Nat.le_of_ble_eq_true rfl, Nat.le_of_ble_eq_true rfl⟩ hS (fun r_42 H locs h_42 hz_42 hS => ?_)
        have hKK := hKK0.keep hS.2.1
        obtain ⟨V_42, F_42, hR42, hW, hC, hs42⟩ := h_42
        have hsm := hsm.tr hs42
        obtain ⟨g2, hG2, hg2⟩ := hC.f2
        refine lv_iadd hx hb dX4_correct_45 ?_
        refine lv_istore_n (lv' := [(1, .int (((ck_csm V nr k13)) + r_42)), (5, .ref (ad (100 + k13))), (4, .int (nI k13)), (3, .int 60), (2, .ref (ad 2)), (0, .ref (ad 0))]) hx hb dX4_correct_46 rfl hl (by decide) rfl (fun ls hl => ?_)
        refine lv_iinc (v := nI (k13 + 1)) (lv' := [(4, .int (nI (k13 + 1))), (1, .int (((ck_csm V nr k13)) + r_42)), (5, .ref (ad (100 + k13))), (3, .int 60), (2, .ref (ad 2)), (0, .ref (ad 0))]) hx hb dX4_correct_47 hl (k := 2) rfl (nI_1 k13) (by decide) rfl (fun ls hl => ?_)
        refine lv_goto (tgt := 13) hx hb dX4_correct_50 (by decide) ?_
        have e1 : min (k13 + 1) nc = k13 + 1 := by omega
        have b35 : ¬ V 5 k13 = -1 := fun z => h_32 ((ck_cb5_at V nr k13).trans z)
        obtain ⟨e7, e8⟩ := ck_R1_step b35 hR42
        have hC : ck_C G ad (ck_cV V nr (min (k13 + 1) nc)) L nc nr N F_42 := by rw [e1, ← e7]; exact hC
        have e9 := e8; rw [← e1] at e9
        have hl : lv_has ls 6 [(4, .int (nI (k13 + 1))), (1, .int (ck_csm V nr (min (k13 + 1) nc))), (5, .ref (ad (100 + k13))), (3, .int 60), (2, .ref (ad 2)), (0, .ref (ad 0))] := by rw [e9]; exact hl
        exact ih13 ls H locs (lv_sub hl [0, 3, 4, 1, 5] rfl) ⟨hS, F_42, hW, hC, hsm⟩
      · skip
        refine lv_if_eq (tgt := 47) hx hb dX4_correct_35 (by decide) (fun _ => ?_) (fun c_35 => absurd (by decide) c_35)
        refine lv_iinc (v := nI (k13 + 1)) (lv' := [(4, .int (nI (k13 + 1))), (5, .ref (ad (100 + k13))), (3, .int 60), (2, .ref (ad 2)), (1, .int (ck_csm V nr k13)), (0, .ref (ad 0))]) hx hb dX4_correct_47 hl (k := 1) rfl (nI_1 k13) (by decide) rfl (fun ls hl => ?_)
        refine lv_goto (tgt := 13) hx hb dX4_correct_50 (by decide) ?_
        have e1 : min (k13 + 1) nc = k13 + 1 := by omega
        have b35 : V 5 k13 = -1 := (ck_cb5_at V nr k13).symm.trans (Decidable.not_not.mp h_32)
        have n35 : ck_cn V nr k13 = -1 := if_pos b35
        have hC : ck_C G ad (ck_cV V nr (min (k13 + 1) nc)) L nc nr N F_step13 := by rw [e1, ck_cV_no n35]; exact hC
        have e9 : ck_csm V nr (min (k13 + 1) nc) = ck_csm V nr k13 := by rw [e1]; simp only [ck_csm]; rw [if_pos n35]
        have hl : lv_has ls 6 [(4, .int (nI (k13 + 1))), (5, .ref (ad (100 + k13))), (3, .int 60), (2, .ref (ad 2)), (1, .int (ck_csm V nr (min (k13 + 1) nc))), (0, .ref (ad 0))] := by rw [e9]; exact hl
        exact ih13 ls H locs (lv_sub hl [0, 2, 3, 4, 5] rfl) ⟨hS, F_step13, hW, hC, hsm⟩
    · skip
      refine ck_aald hx hb hK hW (hC.n 2 (by decide)) hG2 2 rfl k13 (rfl) (hk13) (by decide) (r := none) (by rw [hg2 k13 hk13, if_neg hkn]) dX4_correct_22 ?_
      refine lv_astoreN (lv' := [(5, .null), (4, .int (nI k13)), (3, .int 60), (2, .ref (ad 2)), (1, .int (ck_csm V nr (min k13 nc))), (0, .ref (ad 0))]) hx hb dX4_correct_23 hl (by decide) rfl (fun ls hl => ?_)
      refine lv_aloadN hx hb dX4_correct_25 (lv_at hl 0 rfl) ?_
      refine lv_ifnullN (tgt := 47) hx hb dX4_correct_27 (by decide) ?_
      refine lv_iinc (v := nI (k13 + 1)) (lv' := [(4, .int (nI (k13 + 1))), (5, .null), (3, .int 60), (2, .ref (ad 2)), (1, .int (ck_csm V nr (min k13 nc))), (0, .ref (ad 0))]) hx hb dX4_correct_47 hl (k := 1) rfl (nI_1 k13) (by decide) rfl (fun ls hl => ?_)
      refine lv_goto (tgt := 13) hx hb dX4_correct_50 (by decide) ?_
      have e1 : min (k13 + 1) nc = min k13 nc := by omega
      rw [← e1] at hl hC
      exact ih13 ls H locs (lv_sub hl [0, 2, 3, 4, 5] rfl) ⟨hS, F_step13, hW, hC, hsm⟩
