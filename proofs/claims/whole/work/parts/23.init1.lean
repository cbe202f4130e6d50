def ck_sX (i : Nat) (F F1 : Nat → va_E) : Prop := ∀ j, j ≠ i → F1 j = F j
set_option maxHeartbeats 4000000 in
set_option maxRecDepth 100000 in
theorem ct_X0_init (l : Launch) (G : ck_G) (H : Heap) (ad : Nat → Nat) (N : Nat → Prop) (F : Nat → va_E) (hW : ck_W G ad N F H) (i : Nat) (hN : N i) (hF : F i = .inr (0, [.int 0, .int 0, .int 0, .int 0, .int 0, .int 0, .int 0, .int 0])) (a0 a1 a2 a3 : Int32) : Met l yX0_init wsX0_init ({ frames := 1, cells := 0, slots := 0, locals := 20 }) (ck_P G H [.ref (ad i), .int a0, .int a1, .int a2, .int a3]) (ck_Qv G (fun H1 => ∃ F1, F1 i = .inr (0, [.int a0, .int a1, .int a2, .int a3, .int 0, .int 0, .int (-1), .int 0]) ∧ ck_sX i F F1 ∧ ck_W G ad N F1 H1 ∧ H1.size = H.size)) 0 0 (ck_A G) := by
  refine Met.ofW (cc := cX0_init) (maxL := 5) (ret := none) (by decide) rfl ?_
  intro p e s m args below meth c s₁ B hml hv
  obtain ⟨rfl, hH, hKK⟩ := hv
  subst hH
  have hx := B.exec
  have hb := B.bytes
  have hr := B.returns
  have hts := atoms_spec (ws := wsX0_init) B.pre
  have hown : s.vm.findClass RX0 = some m.cls := findClass_of_methodNamed B.named
  have hlocks := B.notSynchronized
  have hinit : meth.name = "<init>" := (name_of_methodNamed B.named B.method).1
  have hKK0 := hKK
  have hK := hKK.1.1
  have hS : va_S (ck_A G) s.heap s.heap [] := va_S.rf
  have hinX0 : ∀ w ∈ u_ws RX0 TX0 8, w ∈ wsX0_init := by decide +kernel
  have hl := lv_entry ([.ref (ad i), .int a0, .int a1, .int a2, .int a3]) (n := 5) (Nat.le_of_ble_eq_true rfl)
  rw [lg_entry_eq]
  generalize (lg_sl ([.ref (ad i), .int a0, .int a1, .int a2, .int a3]) ++ List.replicate (5 - (lg_sl ([.ref (ad i), .int a0, .int a1, .int a2, .int a3])).length) Slot.unset).toArray = ls at hl ⊢
  have hl : lv_has ls 5 [(0, .ref (ad i)), (1, .int a0), (2, .int a1), (3, .int a2), (4, .int a3)] := hl
  have hsm : ck_sX i F F := fun _ _ => rfl
  refine lv_aload_n hx hb dX0_init_0 rfl (lv_at hl 0 rfl) ?_
  refine W.objInit hx hb hown (hts _ (List.mem_of_getElem? (i := 1) rfl)) (hts _ (List.mem_of_getElem? (i := 2) rfl)) (hts _ (List.mem_of_getElem? (i := 3) rfl)) rfl (hl.1.trans hml.symm) rfl dX0_init_1 (Nat.le_of_ble_eq_true rfl) (Nat.le_of_ble_eq_true rfl) ?_
  refine W.eq (g2 := F0 m 4 ls []) rfl ?_
  refine lv_aload_n hx hb dX0_init_4 rfl (lv_at hl 0 rfl) ?_
  refine lv_iconst (v := (-1)) hx hb dX0_init_5 (by decide) ?_
  refine ck_put (v := .int (-1)) (ty := .int) hx hb hts hinX0 tyX0 tyX0_ok nmX0 hown hK hW hS hN hF rfl 6 (by decide) (hts _ (List.mem_of_getElem? (i := 4) rfl)) rfl rfl (by decide +kernel) rfl rfl (Nat.le_of_ble_eq_true rfl) dX0_init_6 (fun H locs hW hS hz6 => ?_)
  obtain ⟨F_6, hFe6, hFo6, hW⟩ := ck_name hW
  have hsm : ck_sX i F F_6 := fun j hj => (hFo6 j (by omega)).trans (hsm j hj)
  have hKK := hKK0.keep hS.2.1
  refine lv_aload_n hx hb dX0_init_9 rfl (lv_at hl 0 rfl) ?_
  refine lv_iload_n hx hb dX0_init_10 rfl (lv_at hl 1 rfl) ?_
  refine ck_putF (v := .int a0) (ty := .int) hx hb hts hinX0 tyX0 tyX0_ok nmX0 hown hK hW hS hN hFe6 rfl 0 (by decide) (hts _ (List.mem_of_getElem? (i := 5) rfl)) rfl rfl hinit rfl (by decide +kernel) rfl rfl (Nat.le_of_ble_eq_true rfl) dX0_init_11 (fun H locs hW hS hz11 => ?_)
  obtain ⟨F_11, hFe11, hFo11, hW⟩ := ck_name hW
  have hsm : ck_sX i F F_11 := fun j hj => (hFo11 j (by omega)).trans (hsm j hj)
  have hKK := hKK0.keep hS.2.1
  refine lv_aload_n hx hb dX0_init_14 rfl (lv_at hl 0 rfl) ?_
  refine lv_iload_n hx hb dX0_init_15 rfl (lv_at hl 2 rfl) ?_
  refine ck_putF (v := .int a1) (ty := .int) hx hb hts hinX0 tyX0 tyX0_ok nmX0 hown hK hW hS hN hFe11 rfl 1 (by decide) (hts _ (List.mem_of_getElem? (i := 6) rfl)) rfl rfl hinit rfl (by decide +kernel) rfl rfl (Nat.le_of_ble_eq_true rfl) dX0_init_16 (fun H locs hW hS hz16 => ?_)
  obtain ⟨F_16, hFe16, hFo16, hW⟩ := ck_name hW
  have hsm : ck_sX i F F_16 := fun j hj => (hFo16 j (by omega)).trans (hsm j hj)
  have hKK := hKK0.keep hS.2.1
  refine lv_aload_n hx hb dX0_init_19 rfl (lv_at hl 0 rfl) ?_
  refine lv_iload_n hx hb dX0_init_20 rfl (lv_at hl 3 rfl) ?_
  refine ck_putF (v := .int a2) (ty := .int) hx hb hts hinX0 tyX0 tyX0_ok nmX0 hown hK hW hS hN hFe16 rfl 2 (by decide) (hts _ (List.mem_of_getElem? (i := 7) rfl)) rfl rfl hinit rfl (by decide +kernel) rfl rfl (Nat.le_of_ble_eq_true rfl) dX0_init_21 (fun H locs hW hS hz21 => ?_)
  obtain ⟨F_21, hFe21, hFo21, hW⟩ := ck_name hW
  have hsm : ck_sX i F F_21 := fun j hj => (hFo21 j (by omega)).trans (hsm j hj)
  have hKK := hKK0.keep hS.2.1
  refine lv_aload_n hx hb dX0_init_24 rfl (lv_at hl 0 rfl) ?_
  refine lv_iload hx hb dX0_init_25 (lv_at hl 4 rfl) ?_
  refine ck_putF (v := .int a3) (ty := .int) hx hb hts hinX0 tyX0 tyX0_ok nmX0 hown hK hW hS hN hFe21 rfl 3 (by decide) (hts _ (List.mem_of_getElem? (i := 8) rfl)) rfl rfl hinit rfl (by decide +kernel) rfl rfl (Nat.le_of_ble_eq_true rfl) dX0_init_27 (fun H locs hW hS hz27 => ?_)
  obtain ⟨F_27, hFe27, hFo27, hW⟩ := ck_name hW
  have hsm : ck_sX i F F_27 := fun j hj => (hFo27 j (by omega)).trans (hsm j hj)
  have hKK := hKK0.keep hS.2.1
  exact W.vret hx hb hr (fun t ht hW9 => ⟨⟨rfl, by rw [ht]; exact ⟨F_27, hFe27, hsm, hW, by omega⟩⟩, hS.F ht⟩) hS.2.2 dX0_init_30
set_option maxHeartbeats 4000000 in
set_option maxRecDepth 100000 in
theorem ct_X2_init (l : Launch) (G : ck_G) (H : Heap) (ad : Nat → Nat) (N : Nat → Prop) (F : Nat → va_E) (hW : ck_W G ad N F H) (i : Nat) (hN : N i) (hF : F i = .inr (2, [.int 0, .int 0, .int 0, .int 0, .int 0, .int 0, .int 0])) (a0 a1 a2 a3 a4 a5 a6 : Int32) : Met l yX2_init wsX2_init ({ frames := 1, cells := 0, slots := 0, locals := 20 }) (ck_P G H [.ref (ad i), .int a0, .int a1, .int a2, .int a3, .int a4, .int a5, .int a6]) (ck_Qv G (fun H1 => ∃ F1, F1 i = .inr (2, [.int a0, .int a1, .int a2, .int a3, .int a4, .int a5, .int a6]) ∧ ck_sX i F F1 ∧ ck_W G ad N F1 H1 ∧ H1.size = H.size)) 0 0 (ck_A G) := by
  refine Met.ofW (cc := cX2_init) (maxL := 8) (ret := none) (by decide) rfl ?_
  intro p e s m args below meth c s₁ B hml hv
  obtain ⟨rfl, hH, hKK⟩ := hv
  subst hH
  have hx := B.exec
  have hb := B.bytes
  have hr := B.returns
  have hts := atoms_spec (ws := wsX2_init) B.pre
  have hown : s.vm.findClass RX2 = some m.cls := findClass_of_methodNamed B.named
  have hlocks := B.notSynchronized
  have hinit : meth.name = "<init>" := (name_of_methodNamed B.named B.method).1
  have hKK0 := hKK
  have hK := hKK.1.1
  have hS : va_S (ck_A G) s.heap s.heap [] := va_S.rf
  have hinX2 : ∀ w ∈ u_ws RX2 TX2 7, w ∈ wsX2_init := by decide +kernel
  have hl := lv_entry ([.ref (ad i), .int a0, .int a1, .int a2, .int a3, .int a4, .int a5, .int a6]) (n := 8) (Nat.le_of_ble_eq_true rfl)
  rw [lg_entry_eq]
  generalize (lg_sl ([.ref (ad i), .int a0, .int a1, .int a2, .int a3, .int a4, .int a5, .int a6]) ++ List.replicate (8 - (lg_sl ([.ref (ad i), .int a0, .int a1, .int a2, .int a3, .int a4, .int a5, .int a6])).length) Slot.unset).toArray = ls at hl ⊢
  have hl : lv_has ls 8 [(0, .ref (ad i)), (1, .int a0), (2, .int a1), (3, .int a2), (4, .int a3), (5, .int a4), (6, .int a5), (7, .int a6)] := hl
  have hsm : ck_sX i F F := fun _ _ => rfl
  refine lv_aload_n hx hb dX2_init_0 rfl (lv_at hl 0 rfl) ?_
  refine W.objInit hx hb hown (hts _ (List.mem_of_getElem? (i := 1) rfl)) (hts _ (List.mem_of_getElem? (i := 2) rfl)) (hts _ (List.mem_of_getElem? (i := 3) rfl)) rfl (hl.1.trans hml.symm) rfl dX2_init_1 (Nat.le_of_ble_eq_true rfl) (Nat.le_of_ble_eq_true rfl) ?_
  refine W.eq (g2 := F0 m 4 ls []) rfl ?_
  refine lv_aload_n hx hb dX2_init_4 rfl (lv_at hl 0 rfl) ?_
  refine lv_iload_n hx hb dX2_init_5 rfl (lv_at hl 1 rfl) ?_
  refine ck_putF (v := .int a0) (ty := .int) hx hb hts hinX2 tyX2 tyX2_ok nmX2 hown hK hW hS hN hF rfl 0 (by decide) (hts _ (List.mem_of_getElem? (i := 4) rfl)) rfl rfl hinit rfl (by decide +kernel) rfl rfl (Nat.le_of_ble_eq_true rfl) dX2_init_6 (fun H locs hW hS hz6 => ?_)
  obtain ⟨F_6, hFe6, hFo6, hW⟩ := ck_name hW
  have hsm : ck_sX i F F_6 := fun j hj => (hFo6 j (by omega)).trans (hsm j hj)
  have hKK := hKK0.keep hS.2.1
  refine lv_aload_n hx hb dX2_init_9 rfl (lv_at hl 0 rfl) ?_
  refine lv_iload_n hx hb dX2_init_10 rfl (lv_at hl 2 rfl) ?_
  refine ck_putF (v := .int a1) (ty := .int) hx hb hts hinX2 tyX2 tyX2_ok nmX2 hown hK hW hS hN hFe6 rfl 1 (by decide) (hts _ (List.mem_of_getElem? (i := 5) rfl)) rfl rfl hinit rfl (by decide +kernel) rfl rfl (Nat.le_of_ble_eq_true rfl) dX2_init_11 (fun H locs hW hS hz11 => ?_)
  obtain ⟨F_11, hFe11, hFo11, hW⟩ := ck_name hW
  have hsm : ck_sX i F F_11 := fun j hj => (hFo11 j (by omega)).trans (hsm j hj)
  have hKK := hKK0.keep hS.2.1
  refine lv_aload_n hx hb dX2_init_14 rfl (lv_at hl 0 rfl) ?_
  refine lv_iload_n hx hb dX2_init_15 rfl (lv_at hl 3 rfl) ?_
  refine ck_putF (v := .int a2) (ty := .int) hx hb hts hinX2 tyX2 tyX2_ok nmX2 hown hK hW hS hN hFe11 rfl 2 (by decide) (hts _ (List.mem_of_getElem? (i := 6) rfl)) rfl rfl hinit rfl (by decide +kernel) rfl rfl (Nat.le_of_ble_eq_true rfl) dX2_init_16 (fun H locs hW hS hz16 => ?_)
  obtain ⟨F_16, hFe16, hFo16, hW⟩ := ck_name hW
  have hsm : ck_sX i F F_16 := fun j hj => (hFo16 j (by omega)).trans (hsm j hj)
  have hKK := hKK0.keep hS.2.1
  refine lv_aload_n hx hb dX2_init_19 rfl (lv_at hl 0 rfl) ?_
  refine lv_iload hx hb dX2_init_20 (lv_at hl 4 rfl) ?_
  refine ck_putF (v := .int a3) (ty := .int) hx hb hts hinX2 tyX2 tyX2_ok nmX2 hown hK hW hS hN hFe16 rfl 3 (by decide) (hts _ (List.mem_of_getElem? (i := 7) rfl)) rfl rfl hinit rfl (by decide +kernel) rfl rfl (Nat.le_of_ble_eq_true rfl) dX2_init_22 (fun H locs hW hS hz22 => ?_)
  obtain ⟨F_22, hFe22, hFo22, hW⟩ := ck_name hW
  have hsm : ck_sX i F F_22 := fun j hj => (hFo22 j (by omega)).trans (hsm j hj)
  have hKK := hKK0.keep hS.2.1
  refine lv_aload_n hx hb dX2_init_25 rfl (lv_at hl 0 rfl) ?_
  refine lv_iload hx hb dX2_init_26 (lv_at hl 5 rfl) ?_
  refine ck_putF (v := .int a4) (ty := .int) hx hb hts hinX2 tyX2 tyX2_ok nmX2 hown hK hW hS hN hFe22 rfl 4 (by decide) (hts _ (List.mem_of_getElem? (i := 8) rfl)) rfl rfl hinit rfl (by decide +kernel) rfl rfl (Nat.le_of_ble_eq_true rfl) dX2_init_28 (fun H locs hW hS hz28 => ?_)
  obtain ⟨F_28, hFe28, hFo28, hW⟩ := ck_name hW
  have hsm : ck_sX i F F_28 := fun j hj => (hFo28 j (by omega)).trans (hsm j hj)
  have hKK := hKK0.keep hS.2.1
  refine lv_aload_n hx hb dX2_init_31 rfl (lv_at hl 0 rfl) ?_
  refine lv_iload hx hb dX2_init_32 (lv_at hl 6 rfl) ?_
  refine ck_putF (v := .int a5) (ty := .int) hx hb hts hinX2 tyX2 tyX2_ok nmX2 hown hK hW hS hN hFe28 rfl 5 (by decide) (hts _ (List.mem_of_getElem? (i := 9) rfl)) rfl rfl hinit rfl (by decide +kernel) rfl rfl (Nat.le_of_ble_eq_true rfl) dX2_init_34 (fun H locs hW hS hz34 => ?_)
  obtain ⟨F_34, hFe34, hFo34, hW⟩ := ck_name hW
  have hsm : ck_sX i F F_34 := fun j hj => (hFo34 j (by omega)).trans (hsm j hj)
  have hKK := hKK0.keep hS.2.1
  refine lv_aload_n hx hb dX2_init_37 rfl (lv_at hl 0 rfl) ?_
  refine lv_iload hx hb dX2_init_38 (lv_at hl 7 rfl) ?_
  refine ck_putF (v := .int a6) (ty := .int) hx hb hts hinX2 tyX2 tyX2_ok nmX2 hown hK hW hS hN hFe34 rfl 6 (by decide) (hts _ (List.mem_of_getElem? (i := 10) rfl)) rfl rfl hinit rfl (by decide +kernel) rfl rfl (Nat.le_of_ble_eq_true rfl) dX2_init_40 (fun H locs hW hS hz40 => ?_)
  obtain ⟨F_40, hFe40, hFo40, hW⟩ := ck_name hW
  have hsm : ck_sX i F F_40 := fun j hj => (hFo40 j (by omega)).trans (hsm j hj)
  have hKK := hKK0.keep hS.2.1
  exact W.vret hx hb hr (fun t ht hW9 => ⟨⟨rfl, by rw [ht]; exact ⟨F_40, hFe40, hsm, hW, by omega⟩⟩, hS.F ht⟩) hS.2.2 dX2_init_43
set_option maxHeartbeats 4000000 in
set_option maxRecDepth 100000 in
theorem ct_X3_init (l : Launch) (G : ck_G) (H : Heap) (ad : Nat → Nat) (N : Nat → Prop) (F : Nat → va_E) (hW : ck_W G ad N F H) (hSz : G.2.2.2 ≤ H.size) (i j : Nat) (hij : i ≠ j) (hN : N i) (hj : ¬ N j) (hja : ad j = H.size) (hF : F i = .inr (3, [.null, .int 0, .int 0, .int 0, .int 0])) : Met l yX3_init wsX3_init ({ frames := 1, cells := 1, slots := 157, locals := 20 }) (ck_P G H [.ref (ad i)]) (ck_Qv G (fun H1 => ∃ N1 F1, (∀ q, N q → N1 q) ∧ (∀ q, N1 q → N q ∨ q = j) ∧ N1 j ∧ F1 i = .inr (3, [.ref (ad j), .int 0, .int 9999, .int 0, .int 0]) ∧ F1 j = .inl (G.2.1 1, 157, .inr (.inl (fun _ => 0))) ∧ (∀ q, q ≠ i → q ≠ j → F1 q = F q) ∧ ck_W G ad N1 F1 H1 ∧ H1.size = H.size + 1)) 1 157 (ck_A G) := by
  refine Met.ofW (cc := cX3_init) (maxL := 1) (ret := none) (by decide) rfl ?_
  intro p e s m args below meth c s₁ B hml hv
  obtain ⟨rfl, hH, hKK⟩ := hv
  subst hH
  have hx := B.exec
  have hb := B.bytes
  have hr := B.returns
  have hts := atoms_spec (ws := wsX3_init) B.pre
  have hown : s.vm.findClass RX3 = some m.cls := findClass_of_methodNamed B.named
  have hlocks := B.notSynchronized
  have hinit : meth.name = "<init>" := (name_of_methodNamed B.named B.method).1
  have hKK0 := hKK
  have hK := hKK.1.1
  have hS : va_S (ck_A G) s.heap s.heap [] := va_S.rf
  have hinX3 : ∀ w ∈ u_ws RX3 TX3 5, w ∈ wsX3_init := by decide +kernel
  have hl := lv_entry ([.ref (ad i)]) (n := 1) (Nat.le_of_ble_eq_true rfl)
  rw [lg_entry_eq]
  generalize (lg_sl ([.ref (ad i)]) ++ List.replicate (1 - (lg_sl ([.ref (ad i)])).length) Slot.unset).toArray = ls at hl ⊢
  have hl : lv_has ls 1 [(0, .ref (ad i))] := hl
  refine lv_aload_n hx hb dX3_init_0 rfl (lv_at hl 0 rfl) ?_
  refine W.objInit hx hb hown (hts _ (List.mem_of_getElem? (i := 1) rfl)) (hts _ (List.mem_of_getElem? (i := 2) rfl)) (hts _ (List.mem_of_getElem? (i := 3) rfl)) rfl (hl.1.trans hml.symm) rfl dX3_init_1 (Nat.le_of_ble_eq_true rfl) (Nat.le_of_ble_eq_true rfl) ?_
  refine W.eq (g2 := F0 m 4 ls []) rfl ?_
  refine lv_aload_n hx hb dX3_init_4 rfl (lv_at hl 0 rfl) ?_
  refine lv_sipush (v := 157) hx hb dX3_init_5 (by decide) ?_
  refine ck_newL hx hb (hts _ (List.mem_of_getElem? (i := 4) rfl)) hK hW hS hSz j (hj) (hja) 157 (by decide) (by decide) (by decide) (Nat.le_of_ble_eq_true rfl) (Nat.le_of_ble_eq_true rfl) dX3_init_8 (fun N_8 F_8 H hNw8 hS hz8 => ?_)
  obtain ⟨hNs8, hNo8, hNi8, hFe8, hFo8, hW⟩ := hNw8
  have hFI_8 := (hFo8 i (by omega)).trans hF
  have hNI_8 := hNs8 _ hN
  have hSz : G.2.2.2 ≤ H.size := by omega
  have hKK := hKK0.keep hS.2.1
  refine ck_putF (v := .ref (ad j)) (ty := (tyX3 0)) hx hb hts hinX3 tyX3 tyX3_ok nmX3 hown hK hW hS hNI_8 hFI_8 rfl 0 (by decide) (hts _ (List.mem_of_getElem? (i := 5) rfl)) rfl rfl hinit rfl (by decide +kernel) rfl rfl (Nat.le_of_ble_eq_true rfl) dX3_init_10 (fun H locs hW hS hz10 => ?_)
  obtain ⟨F_10, hFe10, hFo10, hW⟩ := ck_name hW
  have hSz : G.2.2.2 ≤ H.size := by omega
  have hFJ_10 := (hFo10 j (by omega)).trans hFe8
  have hKK := hKK0.keep hS.2.1
  refine lv_aload_n hx hb dX3_init_13 rfl (lv_at hl 0 rfl) ?_
  refine lv_sipush (v := 9999) hx hb dX3_init_14 (by decide) ?_
  refine ck_put (v := .int 9999) (ty := .int) hx hb hts hinX3 tyX3 tyX3_ok nmX3 hown hK hW hS hNI_8 hFe10 rfl 2 (by decide) (hts _ (List.mem_of_getElem? (i := 6) rfl)) rfl rfl (by decide +kernel) rfl rfl (Nat.le_of_ble_eq_true rfl) dX3_init_17 (fun H locs hW hS hz17 => ?_)
  obtain ⟨F_17, hFe17, hFo17, hW⟩ := ck_name hW
  have hSz : G.2.2.2 ≤ H.size := by omega
  have hFJ_17 := (hFo17 j (by omega)).trans hFJ_10
  have hKK := hKK0.keep hS.2.1
  exact W.vret hx hb hr (fun t ht hW9 => ⟨⟨rfl, by rw [ht]; exact ⟨N_8, F_17, hNs8, hNo8, hNi8, hFe17, hFJ_17, fun q h1 h2 => (hFo17 q h1).trans ((hFo10 q h1).trans (hFo8 q h2)), hW, by omega⟩⟩, hS.F ht⟩) hS.2.2 dX3_init_20
set_option maxHeartbeats 4000000 in
set_option maxRecDepth 100000 in
theorem ct_X1_init (l : Launch) (G : ck_G) (H : Heap) (ad : Nat → Nat) (N : Nat → Prop) (F : Nat → va_E) (hW : ck_W G ad N F H) (hSz : G.2.2.2 ≤ H.size) (i j k : Nat) (hij : i ≠ j) (hik : i ≠ k) (hjk : j ≠ k) (hN : N i) (hj : ¬ N j) (hk : ¬ N k) (hja : ad j = H.size) (hka : ad k = H.size + 1) (hF : F i = .inr (1, [.null, .null])) : Met l yX1_init wsX1_init ({ frames := 1, cells := 2, slots := 20, locals := 20 }) (ck_P G H [.ref (ad i)]) (ck_Qv G (fun H1 => ∃ N1 F1, (∀ q, N q → N1 q) ∧ (∀ q, N1 q → N q ∨ q = j ∨ q = k) ∧ N1 j ∧ N1 k ∧ F1 i = .inr (1, [.ref (ad j), .ref (ad k)]) ∧ F1 j = .inl (G.2.1 0, 10, .inl (fun _ => 0)) ∧ F1 k = .inl (G.2.1 0, 10, .inl (fun _ => 0)) ∧ (∀ q, q ≠ i → q ≠ j → q ≠ k → F1 q = F q) ∧ ck_W G ad N1 F1 H1 ∧ H1.size = H.size + 2)) 2 20 (ck_A G) := by
  refine Met.ofW (cc := cX1_init) (maxL := 1) (ret := none) (by decide) rfl ?_
  intro p e s m args below meth c s₁ B hml hv
  obtain ⟨rfl, hH, hKK⟩ := hv
  subst hH
  have hx := B.exec
  have hb := B.bytes
  have hr := B.returns
  have hts := atoms_spec (ws := wsX1_init) B.pre
  have hown : s.vm.findClass RX1 = some m.cls := findClass_of_methodNamed B.named
  have hlocks := B.notSynchronized
  have hinit : meth.name = "<init>" := (name_of_methodNamed B.named B.method).1
  have hKK0 := hKK
  have hK := hKK.1.1
  have hS : va_S (ck_A G) s.heap s.heap [] := va_S.rf
  have hinX1 : ∀ w ∈ u_ws RX1 TX1 2, w ∈ wsX1_init := by decide +kernel
  have hl := lv_entry ([.ref (ad i)]) (n := 1) (Nat.le_of_ble_eq_true rfl)
  rw [lg_entry_eq]
  generalize (lg_sl ([.ref (ad i)]) ++ List.replicate (1 - (lg_sl ([.ref (ad i)])).length) Slot.unset).toArray = ls at hl ⊢
  have hl : lv_has ls 1 [(0, .ref (ad i))] := hl
  refine lv_aload_n hx hb dX1_init_0 rfl (lv_at hl 0 rfl) ?_
  refine W.objInit hx hb hown (hts _ (List.mem_of_getElem? (i := 1) rfl)) (hts _ (List.mem_of_getElem? (i := 2) rfl)) (hts _ (List.mem_of_getElem? (i := 3) rfl)) rfl (hl.1.trans hml.symm) rfl dX1_init_1 (Nat.le_of_ble_eq_true rfl) (Nat.le_of_ble_eq_true rfl) ?_
  refine W.eq (g2 := F0 m 4 ls []) rfl ?_
  refine lv_aload_n hx hb dX1_init_4 rfl (lv_at hl 0 rfl) ?_
  refine lv_bipush (v := 10) hx hb dX1_init_5 (by decide) ?_
  refine ck_newI hx hb (hts _ (List.mem_of_getElem? (i := 4) rfl)) hK hW hS hSz j (hj) (hja) 10 (by decide) (by decide) (by decide) (Nat.le_of_ble_eq_true rfl) (Nat.le_of_ble_eq_true rfl) dX1_init_7 (fun N_7 F_7 H hNw7 hS hz7 => ?_)
  obtain ⟨hNs7, hNo7, hNi7, hFe7, hFo7, hW⟩ := hNw7
  have hFI_7 := (hFo7 i (by omega)).trans hF
  have hNI_7 := hNs7 _ hN
  have hSz : G.2.2.2 ≤ H.size := by omega
  have hKK := hKK0.keep hS.2.1
  refine ck_putF (v := .ref (ad j)) (ty := (tyX1 0)) hx hb hts hinX1 tyX1 tyX1_ok nmX1 hown hK hW hS hNI_7 hFI_7 rfl 0 (by decide) (hts _ (List.mem_of_getElem? (i := 5) rfl)) rfl rfl hinit rfl (by decide +kernel) rfl rfl (Nat.le_of_ble_eq_true rfl) dX1_init_9 (fun H locs hW hS hz9 => ?_)
  obtain ⟨F_9, hFe9, hFo9, hW⟩ := ck_name hW
  have hSz : G.2.2.2 ≤ H.size := by omega
  have hFJ_9 := (hFo9 j (by omega)).trans hFe7
  have hKK := hKK0.keep hS.2.1
  refine lv_aload_n hx hb dX1_init_12 rfl (lv_at hl 0 rfl) ?_
  refine lv_bipush (v := 10) hx hb dX1_init_13 (by decide) ?_
  refine ck_newI hx hb (hts _ (List.mem_of_getElem? (i := 4) rfl)) hK hW hS hSz k (fun z => (hNo7 k z).elim hk (fun z => hjk z.symm)) (by omega) 10 (by decide) (by decide) (by decide) (Nat.le_of_ble_eq_true rfl) (Nat.le_of_ble_eq_true rfl) dX1_init_15 (fun N_15 F_15 H hNw15 hS hz15 => ?_)
  obtain ⟨hNs15, hNo15, hNi15, hFe15, hFo15, hW⟩ := hNw15
  have hFI_15 := (hFo15 i (by omega)).trans hFe9
  have hNI_15 := hNs15 _ hNI_7
  have hFJ_15 := (hFo15 j (by omega)).trans hFJ_9
  have hNJ_15 := hNs15 _ hNi7
  have hSz : G.2.2.2 ≤ H.size := by omega
  have hKK := hKK0.keep hS.2.1
  refine ck_putF (v := .ref (ad k)) (ty := (tyX1 1)) hx hb hts hinX1 tyX1 tyX1_ok nmX1 hown hK hW hS hNI_15 hFI_15 rfl 1 (by decide) (hts _ (List.mem_of_getElem? (i := 6) rfl)) rfl rfl hinit rfl (by decide +kernel) rfl rfl (Nat.le_of_ble_eq_true rfl) dX1_init_17 (fun H locs hW hS hz17 => ?_)
  obtain ⟨F_17, hFe17, hFo17, hW⟩ := ck_name hW
  have hSz : G.2.2.2 ≤ H.size := by omega
  have hFJ_17 := (hFo17 j (by omega)).trans hFJ_15
  have hFK_17 := (hFo17 k (by omega)).trans hFe15
  have hKK := hKK0.keep hS.2.1
  exact W.vret hx hb hr (fun t ht hW9 => ⟨⟨rfl, by rw [ht]; exact ⟨N_15, F_17, fun q h => hNs15 q (hNs7 q h), fun q h => (hNo15 q h).elim (fun h => (hNo7 q h).elim Or.inl (fun h => Or.inr (Or.inl h))) (fun h => Or.inr (Or.inr h)), hNJ_15, hNi15, hFe17, hFJ_17, hFK_17, fun q h1 h2 h3 => (hFo17 q h1).trans ((hFo15 q h3).trans ((hFo9 q h1).trans (hFo7 q h2))), hW, by omega⟩⟩, hS.F ht⟩) hS.2.2 dX1_init_20
