def ck_abs (x : Int32) : Int32 := if 0 ≤ x then x else 0 - x
def ck_bk (b : Int32) : Int32 := if b = -1 then 0 else b
set_option maxHeartbeats 4000000 in
set_option maxRecDepth 100000 in
theorem ct_X0_day (l : Launch) (G : ck_G) (H : Heap) (ad : Nat → Nat) (N : Nat → Prop) (F : Nat → va_E) (hW : ck_W G ad N F H) (i : Nat) (hN : N i) (v0 v1 v2 v3 v4 v5 v6 v7 : Int32) (hF : F i = .inr (0, [.int v0, .int v1, .int v2, .int v3, .int v4, .int v5, .int v6, .int v7])) : Met l yX0_day wsX0_day ({ frames := 0, cells := 0, slots := 0, locals := 0 }) (ck_P G H [.ref (ad i)]) (vp_Si (fun r => r = v2 / 1000)) 0 0 (fun _ => False) := by
  refine Met.ofW (cc := cX0_day) (maxL := 1) (ret := (some .int)) (by decide) rfl ?_
  intro p e s m args below meth c s₁ B hml hv
  obtain ⟨rfl, hH, hKK⟩ := hv
  subst hH
  have hx := B.exec
  have hb := B.bytes
  have hr := B.returns
  have hts := atoms_spec (ws := wsX0_day) B.pre
  have hown : s.vm.findClass RX0 = some m.cls := findClass_of_methodNamed B.named
  have hlocks := B.notSynchronized
  have hKK0 := hKK
  have hK := hKK.1.1
  have hinX0 : ∀ w ∈ u_ws RX0 TX0 8, w ∈ wsX0_day := by decide +kernel
  have hl := lv_entry ([.ref (ad i)]) (n := 1) (Nat.le_of_ble_eq_true rfl)
  rw [lg_entry_eq]
  generalize (lg_sl ([.ref (ad i)]) ++ List.replicate (1 - (lg_sl ([.ref (ad i)])).length) Slot.unset).toArray = ls at hl ⊢
  have hl : lv_has ls 1 [(0, .ref (ad i))] := hl
  refine lv_aload_n hx hb dX0_day_0 rfl (lv_at hl 0 rfl) ?_
  refine ck_get (v := .int v2) hx hb hts hinX0 hown hK hW hN hF rfl 2 (by decide) (hts _ (List.mem_of_getElem? (i := 1) rfl)) rfl rfl dX0_day_1 ?_
  refine lv_sipush (v := 1000) hx hb dX0_day_4 (by decide) ?_
  refine lv_idiv hx hb dX0_day_7 (by decide) ?_
  exact W.iret (v := (v2 / 1000)) hx hb hr (fun t ht hW9 => ⟨_, rfl, rfl, ht⟩) (fun _ h => nomatch h) dX0_day_8
set_option maxHeartbeats 4000000 in
set_option maxRecDepth 100000 in
theorem ct_X0_hasLegFrom (l : Launch) (G : ck_G) (H : Heap) (ad : Nat → Nat) (N : Nat → Prop) (F : Nat → va_E) (hW : ck_W G ad N F H) (i : Nat) (hN : N i) (v0 v1 v2 v3 v4 v5 v6 v7 : Int32) (hF : F i = .inr (0, [.int v0, .int v1, .int v2, .int v3, .int v4, .int v5, .int v6, .int v7])) (a0 : Int32) : Met l yX0_hasLegFrom wsX0_hasLegFrom ({ frames := 0, cells := 0, slots := 0, locals := 0 }) (ck_P G H [.ref (ad i), .int a0]) (vp_Si (fun r => ck_b (¬ (v4 &&& ((1 : Int32) <<< (a0 &&& 31))) = 0) r)) 0 0 (fun _ => False) := by
  refine Met.ofW (cc := cX0_hasLegFrom) (maxL := 2) (ret := (some .boolean)) (by decide) rfl ?_
  intro p e s m args below meth c s₁ B hml hv
  obtain ⟨rfl, hH, hKK⟩ := hv
  subst hH
  have hx := B.exec
  have hb := B.bytes
  have hr := B.returns
  have hts := atoms_spec (ws := wsX0_hasLegFrom) B.pre
  have hown : s.vm.findClass RX0 = some m.cls := findClass_of_methodNamed B.named
  have hlocks := B.notSynchronized
  have hKK0 := hKK
  have hK := hKK.1.1
  have hinX0 : ∀ w ∈ u_ws RX0 TX0 8, w ∈ wsX0_hasLegFrom := by decide +kernel
  have hl := lv_entry ([.ref (ad i), .int a0]) (n := 2) (Nat.le_of_ble_eq_true rfl)
  rw [lg_entry_eq]
  generalize (lg_sl ([.ref (ad i), .int a0]) ++ List.replicate (2 - (lg_sl ([.ref (ad i), .int a0])).length) Slot.unset).toArray = ls at hl ⊢
  have hl : lv_has ls 2 [(0, .ref (ad i)), (1, .int a0)] := hl
  refine lv_aload_n hx hb dX0_hasLegFrom_0 rfl (lv_at hl 0 rfl) ?_
  refine ck_get (v := .int v4) hx hb hts hinX0 hown hK hW hN hF rfl 4 (by decide) (hts _ (List.mem_of_getElem? (i := 1) rfl)) rfl rfl dX0_hasLegFrom_1 ?_
  refine lv_iconst (v := 1) hx hb dX0_hasLegFrom_4 (by decide) ?_
  refine lv_iload_n hx hb dX0_hasLegFrom_5 rfl (lv_at hl 1 rfl) ?_
  refine lv_ishl hx hb dX0_hasLegFrom_6 ?_
  refine lv_iand hx hb dX0_hasLegFrom_7 ?_
  refine lv_if_eq (tgt := 15) hx hb dX0_hasLegFrom_8 (by decide) (fun c_8 => ?_) (fun c_8 => ?_)
  · skip
    refine lv_iconst (v := 0) hx hb dX0_hasLegFrom_15 (by decide) ?_
    exact W.zret (v := 0) hx hb hr rfl (fun t ht hW9 => ⟨_, rfl, Or.inr ⟨fun h => h c_8, rfl⟩, ht⟩) (fun _ h => nomatch h) dX0_hasLegFrom_16
  · skip
    refine lv_iconst (v := 1) hx hb dX0_hasLegFrom_11 (by decide) ?_
    refine lv_goto (tgt := 16) hx hb dX0_hasLegFrom_12 (by decide) ?_
    exact W.zret (v := 1) hx hb hr rfl (fun t ht hW9 => ⟨_, rfl, Or.inl ⟨c_8, rfl⟩, ht⟩) (fun _ h => nomatch h) dX0_hasLegFrom_16
set_option maxHeartbeats 4000000 in
set_option maxRecDepth 100000 in
theorem ct_X0_beganWithin (l : Launch) (G : ck_G) (H : Heap) (ad : Nat → Nat) (N : Nat → Prop) (F : Nat → va_E) (hW : ck_W G ad N F H) (i : Nat) (hN : N i) (v0 v1 v2 v3 v4 v5 v6 v7 : Int32) (hF : F i = .inr (0, [.int v0, .int v1, .int v2, .int v3, .int v4, .int v5, .int v6, .int v7])) (a0 a1 a2 : Int32) : Met l yX0_beganWithin wsX0_beganWithin ({ frames := 1, cells := 0, slots := 0, locals := 21 }) (ck_P G H [.ref (ad i), .int a0, .int a1, .int a2]) (vp_Si (fun r => ck_b (ck_abs (a1 - v2) ≤ a0 ∧ ck_abs (a2 - v3) ≤ a0) r)) 0 0 (fun _ => False) := by
  refine Met.ofW (cc := cX0_beganWithin) (maxL := 4) (ret := (some .boolean)) (by decide) rfl ?_
  intro p e s m args below meth c s₁ B hml hv
  obtain ⟨rfl, hH, hKK⟩ := hv
  subst hH
  have hx := B.exec
  have hb := B.bytes
  have hr := B.returns
  have hts := atoms_spec (ws := wsX0_beganWithin) B.pre
  have hown : s.vm.findClass RX0 = some m.cls := findClass_of_methodNamed B.named
  have hlocks := B.notSynchronized
  have hKK0 := hKK
  have hK := hKK.1.1
  have hinX0 : ∀ w ∈ u_ws RX0 TX0 8, w ∈ wsX0_beganWithin := by decide +kernel
  have hl := lv_entry ([.ref (ad i), .int a0, .int a1, .int a2]) (n := 4) (Nat.le_of_ble_eq_true rfl)
  rw [lg_entry_eq]
  generalize (lg_sl ([.ref (ad i), .int a0, .int a1, .int a2]) ++ List.replicate (4 - (lg_sl ([.ref (ad i), .int a0, .int a1, .int a2])).length) Slot.unset).toArray = ls at hl ⊢
  have hl : lv_has ls 4 [(0, .ref (ad i)), (1, .int a0), (2, .int a1), (3, .int a2)] := hl
  refine lv_iload_n hx hb dX0_beganWithin_0 rfl (lv_at hl 2 rfl) ?_
  refine lv_aload_n hx hb dX0_beganWithin_1 rfl (lv_at hl 0 rfl) ?_
  refine ck_get (v := .int v2) hx hb hts hinX0 hown hK hW hN hF rfl 2 (by decide) (hts _ (List.mem_of_getElem? (i := 1) rfl)) rfl rfl dX0_beganWithin_2 ?_
  refine lv_isub hx hb dX0_beganWithin_5 ?_
  refine va_mabs hx hb (hml.trans hl.1.symm) hown (hts _ (List.mem_of_getElem? (i := 2) rfl)) (hts _ (List.mem_of_getElem? (i := 3) rfl)) (hts _ (List.mem_of_getElem? (i := 4) rfl)) (hts _ (List.mem_of_getElem? (i := 5) rfl)) (Nat.le_of_ble_eq_true rfl) (Nat.le_of_ble_eq_true rfl) (Nat.le_of_ble_eq_true rfl) (Nat.le_of_ble_eq_true rfl) dX0_beganWithin_6 ?_
  refine lv_iload_n hx hb dX0_beganWithin_9 rfl (lv_at hl 1 rfl) ?_
  refine lv_icmp_gt (tgt := 30) hx hb dX0_beganWithin_10 (by decide) (fun c_10 => ?_) (fun c_10 => ?_)
  · skip
    refine lv_iconst (v := 0) hx hb dX0_beganWithin_30 (by decide) ?_
    exact W.zret (v := 0) hx hb hr rfl (fun t ht hW9 => ⟨_, rfl, Or.inr ⟨fun h => absurd h.1 (Int32.not_le.mpr c_10), rfl⟩, ht⟩) (fun _ h => nomatch h) dX0_beganWithin_31
  · skip
    refine lv_iload_n hx hb dX0_beganWithin_13 rfl (lv_at hl 3 rfl) ?_
    refine lv_aload_n hx hb dX0_beganWithin_14 rfl (lv_at hl 0 rfl) ?_
    refine ck_get (v := .int v3) hx hb hts hinX0 hown hK hW hN hF rfl 3 (by decide) (hts _ (List.mem_of_getElem? (i := 6) rfl)) rfl rfl dX0_beganWithin_15 ?_
    refine lv_isub hx hb dX0_beganWithin_18 ?_
    refine va_mabs hx hb (hml.trans hl.1.symm) hown (hts _ (List.mem_of_getElem? (i := 2) rfl)) (hts _ (List.mem_of_getElem? (i := 3) rfl)) (hts _ (List.mem_of_getElem? (i := 4) rfl)) (hts _ (List.mem_of_getElem? (i := 5) rfl)) (Nat.le_of_ble_eq_true rfl) (Nat.le_of_ble_eq_true rfl) (Nat.le_of_ble_eq_true rfl) (Nat.le_of_ble_eq_true rfl) dX0_beganWithin_19 ?_
    refine lv_iload_n hx hb dX0_beganWithin_22 rfl (lv_at hl 1 rfl) ?_
    refine lv_icmp_gt (tgt := 30) hx hb dX0_beganWithin_23 (by decide) (fun c_23 => ?_) (fun c_23 => ?_)
    · skip
      refine lv_iconst (v := 0) hx hb dX0_beganWithin_30 (by decide) ?_
      exact W.zret (v := 0) hx hb hr rfl (fun t ht hW9 => ⟨_, rfl, Or.inr ⟨fun h => absurd h.2 (Int32.not_le.mpr c_23), rfl⟩, ht⟩) (fun _ h => nomatch h) dX0_beganWithin_31
    · skip
      refine lv_iconst (v := 1) hx hb dX0_beganWithin_26 (by decide) ?_
      refine lv_goto (tgt := 31) hx hb dX0_beganWithin_27 (by decide) ?_
      exact W.zret (v := 1) hx hb hr rfl (fun t ht hW9 => ⟨_, rfl, Or.inl ⟨⟨Int32.not_lt.mp c_10, Int32.not_lt.mp c_23⟩, rfl⟩, ht⟩) (fun _ h => nomatch h) dX0_beganWithin_31
set_option maxHeartbeats 4000000 in
set_option maxRecDepth 100000 in
theorem ct_X0_isBooked (l : Launch) (G : ck_G) (H : Heap) (ad : Nat → Nat) (N : Nat → Prop) (F : Nat → va_E) (hW : ck_W G ad N F H) (i : Nat) (hN : N i) (v0 v1 v2 v3 v4 v5 v6 v7 : Int32) (hF : F i = .inr (0, [.int v0, .int v1, .int v2, .int v3, .int v4, .int v5, .int v6, .int v7])) : Met l yX0_isBooked wsX0_isBooked ({ frames := 0, cells := 0, slots := 0, locals := 0 }) (ck_P G H [.ref (ad i)]) (vp_Si (fun r => ck_b (¬ v6 = -1) r)) 0 0 (fun _ => False) := by
  refine Met.ofW (cc := cX0_isBooked) (maxL := 1) (ret := (some .boolean)) (by decide) rfl ?_
  intro p e s m args below meth c s₁ B hml hv
  obtain ⟨rfl, hH, hKK⟩ := hv
  subst hH
  have hx := B.exec
  have hb := B.bytes
  have hr := B.returns
  have hts := atoms_spec (ws := wsX0_isBooked) B.pre
  have hown : s.vm.findClass RX0 = some m.cls := findClass_of_methodNamed B.named
  have hlocks := B.notSynchronized
  have hKK0 := hKK
  have hK := hKK.1.1
  have hinX0 : ∀ w ∈ u_ws RX0 TX0 8, w ∈ wsX0_isBooked := by decide +kernel
  have hl := lv_entry ([.ref (ad i)]) (n := 1) (Nat.le_of_ble_eq_true rfl)
  rw [lg_entry_eq]
  generalize (lg_sl ([.ref (ad i)]) ++ List.replicate (1 - (lg_sl ([.ref (ad i)])).length) Slot.unset).toArray = ls at hl ⊢
  have hl : lv_has ls 1 [(0, .ref (ad i))] := hl
  refine lv_aload_n hx hb dX0_isBooked_0 rfl (lv_at hl 0 rfl) ?_
  refine ck_get (v := .int v6) hx hb hts hinX0 hown hK hW hN hF rfl 6 (by decide) (hts _ (List.mem_of_getElem? (i := 1) rfl)) rfl rfl dX0_isBooked_1 ?_
  refine lv_iconst (v := (-1)) hx hb dX0_isBooked_4 (by decide) ?_
  refine lv_icmp_eq (tgt := 12) hx hb dX0_isBooked_5 (by decide) (fun c_5 => ?_) (fun c_5 => ?_)
  · skip
    refine lv_iconst (v := 0) hx hb dX0_isBooked_12 (by decide) ?_
    exact W.zret (v := 0) hx hb hr rfl (fun t ht hW9 => ⟨_, rfl, Or.inr ⟨fun h => h c_5, rfl⟩, ht⟩) (fun _ h => nomatch h) dX0_isBooked_13
  · skip
    refine lv_iconst (v := 1) hx hb dX0_isBooked_8 (by decide) ?_
    refine lv_goto (tgt := 13) hx hb dX0_isBooked_9 (by decide) ?_
    exact W.zret (v := 1) hx hb hr rfl (fun t ht hW9 => ⟨_, rfl, Or.inl ⟨c_5, rfl⟩, ht⟩) (fun _ h => nomatch h) dX0_isBooked_13
set_option maxHeartbeats 4000000 in
set_option maxRecDepth 100000 in
theorem ct_X0_bookedOrZero (l : Launch) (G : ck_G) (H : Heap) (ad : Nat → Nat) (N : Nat → Prop) (F : Nat → va_E) (hW : ck_W G ad N F H) (i : Nat) (hN : N i) (v0 v1 v2 v3 v4 v5 v6 v7 : Int32) (hF : F i = .inr (0, [.int v0, .int v1, .int v2, .int v3, .int v4, .int v5, .int v6, .int v7])) : Met l yX0_bookedOrZero wsX0_bookedOrZero ({ frames := 1, cells := 0, slots := 0, locals := 20 }) (ck_P G H [.ref (ad i)]) (vp_Si (fun r => r = ck_bk v6)) 0 0 (fun _ => False) := by
  refine Met.ofW (cc := cX0_bookedOrZero) (maxL := 1) (ret := (some .int)) (by decide) rfl ?_
  intro p e s m args below meth c s₁ B hml hv
  obtain ⟨rfl, hH, hKK⟩ := hv
  subst hH
  have hx := B.exec
  have hb := B.bytes
  have hr := B.returns
  have hts := atoms_spec (ws := wsX0_bookedOrZero) B.pre
  have hown : s.vm.findClass RX0 = some m.cls := findClass_of_methodNamed B.named
  have hlocks := B.notSynchronized
  have hKK0 := hKK
  have hK := hKK.1.1
  have hinX0 : ∀ w ∈ u_ws RX0 TX0 8, w ∈ wsX0_bookedOrZero := by decide +kernel
  have hl := lv_entry ([.ref (ad i)]) (n := 1) (Nat.le_of_ble_eq_true rfl)
  rw [lg_entry_eq]
  generalize (lg_sl ([.ref (ad i)]) ++ List.replicate (1 - (lg_sl ([.ref (ad i)])).length) Slot.unset).toArray = ls at hl ⊢
  have hl : lv_has ls 1 [(0, .ref (ad i))] := hl
  refine lv_aload_n hx hb dX0_bookedOrZero_0 rfl (lv_at hl 0 rfl) ?_
  refine ck_cVi (As := []) (rest := []) ⟨hx, hb, hml, hown, hts⟩ hKK (ct_X0_isBooked l G s.heap ad N F hW i hN v0 v1 v2 v3 v4 v5 v6 v7 hF) (cwV 0 hts gX0_bookedOrZero_X0_isBooked rfl rfl rfl (by decide +kernel) ⟨Nat.le_of_ble_eq_true rfl, Nat.le_of_ble_eq_true rfl⟩) (ck_recv hK hW hN hF rfl) rfl hl rfl (Nat.le_of_ble_eq_true rfl) dX0_bookedOrZero_1 ⟨Nat.le_of_ble_eq_true rfl, Nat.le_of_ble_eq_true rfl⟩ (fun r_1 h_1 => ?_)
  rcases h_1 with ⟨h_1, rfl⟩ | ⟨h_1, rfl⟩
  · skip
    refine lv_if_eq (tgt := 14) hx hb dX0_bookedOrZero_4 (by decide) (fun c_4 => absurd c_4 (by decide)) (fun _ => ?_)
    refine lv_aload_n hx hb dX0_bookedOrZero_7 rfl (lv_at hl 0 rfl) ?_
    refine ck_get (v := .int v6) hx hb hts hinX0 hown hK hW hN hF rfl 6 (by decide) (hts _ (List.mem_of_getElem? (i := 1) rfl)) rfl rfl dX0_bookedOrZero_8 ?_
    refine lv_goto (tgt := 15) hx hb dX0_bookedOrZero_11 (by decide) ?_
    exact W.iret (v := v6) hx hb hr (fun t ht hW9 => ⟨_, rfl, (by simp [ck_bk, h_1]), ht⟩) (fun _ h => nomatch h) dX0_bookedOrZero_15
  · skip
    refine lv_if_eq (tgt := 14) hx hb dX0_bookedOrZero_4 (by decide) (fun _ => ?_) (fun c_4 => absurd (by decide) c_4)
    refine lv_iconst (v := 0) hx hb dX0_bookedOrZero_14 (by decide) ?_
    exact W.iret (v := 0) hx hb hr (fun t ht hW9 => ⟨_, rfl, (by simp [ck_bk, Decidable.not_not.mp h_1]), ht⟩) (fun _ h => nomatch h) dX0_bookedOrZero_15
set_option maxHeartbeats 4000000 in
set_option maxRecDepth 100000 in
theorem ct_X0_disputed (l : Launch) (G : ck_G) (H : Heap) (ad : Nat → Nat) (N : Nat → Prop) (F : Nat → va_E) (hW : ck_W G ad N F H) (i : Nat) (hN : N i) (v0 v1 v2 v3 v4 v5 v6 v7 : Int32) (hF : F i = .inr (0, [.int v0, .int v1, .int v2, .int v3, .int v4, .int v5, .int v6, .int v7])) : Met l yX0_disputed wsX0_disputed ({ frames := 2, cells := 0, slots := 0, locals := 40 }) (ck_P G H [.ref (ad i)]) (vp_Si (fun r => r = v7 - ck_bk v6)) 0 0 (fun _ => False) := by
  refine Met.ofW (cc := cX0_disputed) (maxL := 1) (ret := (some .int)) (by decide) rfl ?_
  intro p e s m args below meth c s₁ B hml hv
  obtain ⟨rfl, hH, hKK⟩ := hv
  subst hH
  have hx := B.exec
  have hb := B.bytes
  have hr := B.returns
  have hts := atoms_spec (ws := wsX0_disputed) B.pre
  have hown : s.vm.findClass RX0 = some m.cls := findClass_of_methodNamed B.named
  have hlocks := B.notSynchronized
  have hKK0 := hKK
  have hK := hKK.1.1
  have hinX0 : ∀ w ∈ u_ws RX0 TX0 8, w ∈ wsX0_disputed := by decide +kernel
  have hl := lv_entry ([.ref (ad i)]) (n := 1) (Nat.le_of_ble_eq_true rfl)
  rw [lg_entry_eq]
  generalize (lg_sl ([.ref (ad i)]) ++ List.replicate (1 - (lg_sl ([.ref (ad i)])).length) Slot.unset).toArray = ls at hl ⊢
  have hl : lv_has ls 1 [(0, .ref (ad i))] := hl
  refine lv_aload_n hx hb dX0_disputed_0 rfl (lv_at hl 0 rfl) ?_
  refine ck_get (v := .int v7) hx hb hts hinX0 hown hK hW hN hF rfl 7 (by decide) (hts _ (List.mem_of_getElem? (i := 1) rfl)) rfl rfl dX0_disputed_1 ?_
  refine lv_aload_n hx hb dX0_disputed_4 rfl (lv_at hl 0 rfl) ?_
  refine ck_cVi (As := []) (rest := [.int v7]) ⟨hx, hb, hml, hown, hts⟩ hKK (ct_X0_bookedOrZero l G s.heap ad N F hW i hN v0 v1 v2 v3 v4 v5 v6 v7 hF) (cwV 0 hts gX0_disputed_X0_bookedOrZero rfl rfl rfl (by decide +kernel) ⟨Nat.le_of_ble_eq_true rfl, Nat.le_of_ble_eq_true rfl⟩) (ck_recv hK hW hN hF rfl) rfl hl rfl (Nat.le_of_ble_eq_true rfl) dX0_disputed_5 ⟨Nat.le_of_ble_eq_true rfl, Nat.le_of_ble_eq_true rfl⟩ (fun r_5 h_5 => ?_)
  subst h_5
  refine lv_isub hx hb dX0_disputed_8 ?_
  exact W.iret (v := (v7 - ((ck_bk v6)))) hx hb hr (fun t ht hW9 => ⟨_, rfl, rfl, ht⟩) (fun _ h => nomatch h) dX0_disputed_9
def ck_leg (b q : Int32) : Int32 := b ||| ((1 : Int32) <<< (q &&& 31))
def ck_max (a b : Int32) : Int32 := if a < b then b else a
def ck_min (a b : Int32) : Int32 := if b < a then b else a
theorem ck_W.eq {G : ck_G} {ad : Nat → Nat} {N : Nat → Prop} {F F1 : Nat → va_E} {H : Heap} (h : ck_W G ad N F H) (e : F = F1) : ck_W G ad N F1 H := e ▸ h
theorem ck_up2 {α : Type} (f : Nat → α) (k : Nat) (v w : α) : va_up (va_up f k v) k w = va_up f k w := by
  funext j; by_cases h : j = k <;> simp [va_up, h]
set_option maxHeartbeats 4000000 in
set_option maxRecDepth 100000 in
theorem ct_X0_addLeg (l : Launch) (G : ck_G) (H : Heap) (ad : Nat → Nat) (N : Nat → Prop) (F : Nat → va_E) (hW : ck_W G ad N F H) (i : Nat) (hN : N i) (v0 v1 v2 v3 v4 v5 v6 v7 : Int32) (hF : F i = .inr (0, [.int v0, .int v1, .int v2, .int v3, .int v4, .int v5, .int v6, .int v7])) (a0 a1 : Int32) : Met l yX0_addLeg wsX0_addLeg ({ frames := 1, cells := 0, slots := 0, locals := 21 }) (ck_P G H [.ref (ad i), .int a0, .int a1]) (ck_Qv G (fun H1 => ck_W G ad N (va_up F i (.inr (0, [.int v0, .int v1, .int v2, .int v3, .int (ck_leg v4 a0), .int (ck_max v5 a1), .int v6, .int v7]))) H1)) 0 0 (ck_A G) := by
  refine Met.ofW (cc := cX0_addLeg) (maxL := 3) (ret := none) (by decide) rfl ?_
  intro p e s m args below meth c s₁ B hml hv
  obtain ⟨rfl, hH, hKK⟩ := hv
  subst hH
  have hx := B.exec
  have hb := B.bytes
  have hr := B.returns
  have hts := atoms_spec (ws := wsX0_addLeg) B.pre
  have hown : s.vm.findClass RX0 = some m.cls := findClass_of_methodNamed B.named
  have hlocks := B.notSynchronized
  have hKK0 := hKK
  have hK := hKK.1.1
  have hS : va_S (ck_A G) s.heap s.heap [] := va_S.rf
  have hinX0 : ∀ w ∈ u_ws RX0 TX0 8, w ∈ wsX0_addLeg := by decide +kernel
  have hl := lv_entry ([.ref (ad i), .int a0, .int a1]) (n := 3) (Nat.le_of_ble_eq_true rfl)
  rw [lg_entry_eq]
  generalize (lg_sl ([.ref (ad i), .int a0, .int a1]) ++ List.replicate (3 - (lg_sl ([.ref (ad i), .int a0, .int a1])).length) Slot.unset).toArray = ls at hl ⊢
  have hl : lv_has ls 3 [(0, .ref (ad i)), (1, .int a0), (2, .int a1)] := hl
  refine lv_aload_n hx hb dX0_addLeg_0 rfl (lv_at hl 0 rfl) ?_
  refine lv_dup hx hb dX0_addLeg_1 rfl ?_
  refine ck_get (v := .int v4) hx hb hts hinX0 hown hK hW hN hF rfl 4 (by decide) (hts _ (List.mem_of_getElem? (i := 1) rfl)) rfl rfl dX0_addLeg_2 ?_
  refine lv_iconst (v := 1) hx hb dX0_addLeg_5 (by decide) ?_
  refine lv_iload_n hx hb dX0_addLeg_6 rfl (lv_at hl 1 rfl) ?_
  refine lv_ishl hx hb dX0_addLeg_7 ?_
  refine lv_ior hx hb dX0_addLeg_8 ?_
  refine ck_put (v := .int (v4 ||| ((1 <<< (a0 &&& 31))))) (ty := .int) hx hb hts hinX0 tyX0 tyX0_ok nmX0 hown hK hW hS hN hF rfl 4 (by decide) (hts _ (List.mem_of_getElem? (i := 1) rfl)) rfl rfl (by decide +kernel) rfl rfl (Nat.le_of_ble_eq_true rfl) dX0_addLeg_9 (fun H locs hW hS hz9 => ?_)
  have hFI9 := va_up_self F i (.inr (0, [.int v0, .int v1, .int v2, .int v3, .int (v4 ||| ((1 <<< (a0 &&& 31)))), .int v5, .int v6, .int v7]))
  have hKK := hKK0.keep hS.2.1
  refine lv_aload_n hx hb dX0_addLeg_12 rfl (lv_at hl 0 rfl) ?_
  refine lv_aload_n hx hb dX0_addLeg_13 rfl (lv_at hl 0 rfl) ?_
  refine ck_get (v := .int v5) hx hb hts hinX0 hown hK hW hN hFI9 rfl 5 (by decide) (hts _ (List.mem_of_getElem? (i := 2) rfl)) rfl rfl dX0_addLeg_14 ?_
  refine lv_iload_n hx hb dX0_addLeg_17 rfl (lv_at hl 2 rfl) ?_
  refine va_mmax hx hb (hml.trans hl.1.symm) hown (hts _ (List.mem_of_getElem? (i := 3) rfl)) (hts _ (List.mem_of_getElem? (i := 4) rfl)) (hts _ (List.mem_of_getElem? (i := 5) rfl)) (hts _ (List.mem_of_getElem? (i := 6) rfl)) (Nat.le_of_ble_eq_true rfl) (Nat.le_of_ble_eq_true rfl) (Nat.le_of_ble_eq_true rfl) (Nat.le_of_ble_eq_true rfl) dX0_addLeg_18 ?_
  refine ck_put (v := .int (if v5 < a1 then a1 else v5)) (ty := .int) hx hb hts hinX0 tyX0 tyX0_ok nmX0 hown hK hW hS hN hFI9 rfl 5 (by decide) (hts _ (List.mem_of_getElem? (i := 2) rfl)) rfl rfl (by decide +kernel) rfl rfl (Nat.le_of_ble_eq_true rfl) dX0_addLeg_21 (fun H locs hW hS hz21 => ?_)
  have hFI21 := va_up_self (va_up F i (.inr (0, [.int v0, .int v1, .int v2, .int v3, .int (v4 ||| ((1 <<< (a0 &&& 31)))), .int v5, .int v6, .int v7]))) i (.inr (0, [.int v0, .int v1, .int v2, .int v3, .int (v4 ||| ((1 <<< (a0 &&& 31)))), .int (if v5 < a1 then a1 else v5), .int v6, .int v7]))
  have hKK := hKK0.keep hS.2.1
  exact W.vret hx hb hr (fun t ht hW9 => ⟨⟨rfl, by rw [ht]; exact hW.eq (ck_up2 _ _ _ _)⟩, hS.F ht⟩) hS.2.2 dX0_addLeg_24
def ck_chg (len price step least fee : Int32) : Int32 := fee + ck_up (price * ck_max (ck_up len step * step) least) 60
def ck_bef (i q d i' q' d' : Int32) : Prop := if q = q' then (if d = d' then i' < i else d' < d) else q' < q
set_option maxHeartbeats 4000000 in
set_option maxRecDepth 100000 in
theorem ct_X2_chargeFor (l : Launch) (G : ck_G) (H : Heap) (ad : Nat → Nat) (N : Nat → Prop) (F : Nat → va_E) (hW : ck_W G ad N F H) (i : Nat) (hN : N i) (r0 r1 r2 r3 r4 r5 r6 : Int32) (hF : F i = .inr (2, [.int r0, .int r1, .int r2, .int r3, .int r4, .int r5, .int r6])) (a0 : Int32) : Met l yX2_chargeFor wsX2_chargeFor ({ frames := 1, cells := 0, slots := 0, locals := 21 }) (ck_P G H [.ref (ad i), .int a0]) (vp_Si (fun r => r = ck_chg a0 r3 r4 r5 r6)) 0 0 (fun _ => False) := by
  refine Met.ofW (cc := cX2_chargeFor) (maxL := 3) (ret := (some .int)) (by decide) rfl ?_
  intro p e s m args below meth c s₁ B hml hv
  obtain ⟨rfl, hH, hKK⟩ := hv
  subst hH
  have hx := B.exec
  have hb := B.bytes
  have hr := B.returns
  have hts := atoms_spec (ws := wsX2_chargeFor) B.pre
  have hown : s.vm.findClass RX2 = some m.cls := findClass_of_methodNamed B.named
  have hlocks := B.notSynchronized
  have hKK0 := hKK
  have hK := hKK.1.1
  have hinX2 : ∀ w ∈ u_ws RX2 TX2 7, w ∈ wsX2_chargeFor := by decide +kernel
  have hl := lv_entry ([.ref (ad i), .int a0]) (n := 3) (Nat.le_of_ble_eq_true rfl)
  rw [lg_entry_eq]
  generalize (lg_sl ([.ref (ad i), .int a0]) ++ List.replicate (3 - (lg_sl ([.ref (ad i), .int a0])).length) Slot.unset).toArray = ls at hl ⊢
  have hl : lv_has ls 3 [(0, .ref (ad i)), (1, .int a0)] := hl
  refine lv_iload_n hx hb dX2_chargeFor_0 rfl (lv_at hl 1 rfl) ?_
  refine lv_aload_n hx hb dX2_chargeFor_1 rfl (lv_at hl 0 rfl) ?_
  refine ck_get (v := .int r4) hx hb hts hinX2 hown hK hW hN hF rfl 4 (by decide) (hts _ (List.mem_of_getElem? (i := 1) rfl)) rfl rfl dX2_chargeFor_2 ?_
  refine ck_cSi (As := [.int a0, .int r4]) (rest := []) ⟨hx, hb, hml, hown, hts⟩ hKK (ct_X2_quotientUp l G s.heap a0 r4) (va_cwS 2 hts gX2_chargeFor_X2_quotientUp rfl rfl rfl (by decide +kernel) ⟨Nat.le_of_ble_eq_true rfl, Nat.le_of_ble_eq_true rfl⟩) rfl hl rfl (Nat.le_of_ble_eq_true rfl) dX2_chargeFor_5 ⟨Nat.le_of_ble_eq_true rfl, Nat.le_of_ble_eq_true rfl⟩ (fun r_5 h_5 => ?_)
  subst h_5
  refine lv_aload_n hx hb dX2_chargeFor_8 rfl (lv_at hl 0 rfl) ?_
  refine ck_get (v := .int r4) hx hb hts hinX2 hown hK hW hN hF rfl 4 (by decide) (hts _ (List.mem_of_getElem? (i := 1) rfl)) rfl rfl dX2_chargeFor_9 ?_
  refine lv_imul hx hb dX2_chargeFor_12 ?_
  refine lv_aload_n hx hb dX2_chargeFor_13 rfl (lv_at hl 0 rfl) ?_
  refine ck_get (v := .int r5) hx hb hts hinX2 hown hK hW hN hF rfl 5 (by decide) (hts _ (List.mem_of_getElem? (i := 2) rfl)) rfl rfl dX2_chargeFor_14 ?_
  refine va_mmax hx hb (hml.trans hl.1.symm) hown (hts _ (List.mem_of_getElem? (i := 3) rfl)) (hts _ (List.mem_of_getElem? (i := 4) rfl)) (hts _ (List.mem_of_getElem? (i := 5) rfl)) (hts _ (List.mem_of_getElem? (i := 6) rfl)) (Nat.le_of_ble_eq_true rfl) (Nat.le_of_ble_eq_true rfl) (Nat.le_of_ble_eq_true rfl) (Nat.le_of_ble_eq_true rfl) dX2_chargeFor_17 ?_
  refine lv_istore_n (lv' := [(2, .int (if (((ck_up a0 r4)) * r4) < r5 then r5 else (((ck_up a0 r4)) * r4))), (0, .ref (ad i)), (1, .int a0)]) hx hb dX2_chargeFor_20 rfl hl (by decide) rfl (fun ls hl => ?_)
  refine lv_aload_n hx hb dX2_chargeFor_21 rfl (lv_at hl 1 rfl) ?_
  refine ck_get (v := .int r6) hx hb hts hinX2 hown hK hW hN hF rfl 6 (by decide) (hts _ (List.mem_of_getElem? (i := 7) rfl)) rfl rfl dX2_chargeFor_22 ?_
  refine lv_aload_n hx hb dX2_chargeFor_25 rfl (lv_at hl 1 rfl) ?_
  refine ck_get (v := .int r3) hx hb hts hinX2 hown hK hW hN hF rfl 3 (by decide) (hts _ (List.mem_of_getElem? (i := 8) rfl)) rfl rfl dX2_chargeFor_26 ?_
  refine lv_iload_n hx hb dX2_chargeFor_29 rfl (lv_at hl 0 rfl) ?_
  refine lv_imul hx hb dX2_chargeFor_30 ?_
  refine lv_bipush (v := 60) hx hb dX2_chargeFor_31 (by decide) ?_
  refine ck_cSi (As := [.int (r3 * ((if (((ck_up a0 r4)) * r4) < r5 then r5 else (((ck_up a0 r4)) * r4)))), .int 60]) (rest := [.int r6]) ⟨hx, hb, hml, hown, hts⟩ hKK (ct_X2_quotientUp l G s.heap ((r3 * ((if (((ck_up a0 r4)) * r4) < r5 then r5 else (((ck_up a0 r4)) * r4))))) 60) (va_cwS 2 hts gX2_chargeFor_X2_quotientUp rfl rfl rfl (by decide +kernel) ⟨Nat.le_of_ble_eq_true rfl, Nat.le_of_ble_eq_true rfl⟩) rfl hl rfl (Nat.le_of_ble_eq_true rfl) dX2_chargeFor_33 ⟨Nat.le_of_ble_eq_true rfl, Nat.le_of_ble_eq_true rfl⟩ (fun r_33 h_33 => ?_)
  subst h_33
  refine lv_iadd hx hb dX2_chargeFor_36 ?_
  exact W.iret (v := (r6 + ((ck_up ((r3 * ((if (((ck_up a0 r4)) * r4) < r5 then r5 else (((ck_up a0 r4)) * r4))))) 60)))) hx hb hr (fun t ht hW9 => ⟨_, rfl, rfl, ht⟩) (fun _ h => nomatch h) dX2_chargeFor_37
set_option maxHeartbeats 4000000 in
set_option maxRecDepth 100000 in
theorem ct_X2_goesBefore (l : Launch) (G : ck_G) (H : Heap) (ad : Nat → Nat) (N : Nat → Prop) (F : Nat → va_E) (hW : ck_W G ad N F H) (i : Nat) (hN : N i) (r0 r1 r2 r3 r4 r5 r6 : Int32) (hF : F i = .inr (2, [.int r0, .int r1, .int r2, .int r3, .int r4, .int r5, .int r6])) (j : Nat) (hNj : N j) (u0 u1 u2 u3 u4 u5 u6 : Int32) (hFj : F j = .inr (2, [.int u0, .int u1, .int u2, .int u3, .int u4, .int u5, .int u6])) : Met l yX2_goesBefore wsX2_goesBefore ({ frames := 0, cells := 0, slots := 0, locals := 0 }) (ck_P G H [.ref (ad i), .ref (ad j)]) (vp_Si (fun r => ck_b (ck_bef r0 r1 r2 u0 u1 u2) r)) 0 0 (fun _ => False) := by
  refine Met.ofW (cc := cX2_goesBefore) (maxL := 2) (ret := (some .boolean)) (by decide) rfl ?_
  intro p e s m args below meth c s₁ B hml hv
  obtain ⟨rfl, hH, hKK⟩ := hv
  subst hH
  have hx := B.exec
  have hb := B.bytes
  have hr := B.returns
  have hts := atoms_spec (ws := wsX2_goesBefore) B.pre
  have hown : s.vm.findClass RX2 = some m.cls := findClass_of_methodNamed B.named
  have hlocks := B.notSynchronized
  have hKK0 := hKK
  have hK := hKK.1.1
  have hinX2 : ∀ w ∈ u_ws RX2 TX2 7, w ∈ wsX2_goesBefore := by decide +kernel
  have hl := lv_entry ([.ref (ad i), .ref (ad j)]) (n := 2) (Nat.le_of_ble_eq_true rfl)
  rw [lg_entry_eq]
  generalize (lg_sl ([.ref (ad i), .ref (ad j)]) ++ List.replicate (2 - (lg_sl ([.ref (ad i), .ref (ad j)])).length) Slot.unset).toArray = ls at hl ⊢
  have hl : lv_has ls 2 [(0, .ref (ad i)), (1, .ref (ad j))] := hl
  refine lv_aload_n hx hb dX2_goesBefore_0 rfl (lv_at hl 0 rfl) ?_
  refine ck_get (v := .int r1) hx hb hts hinX2 hown hK hW hN hF rfl 1 (by decide) (hts _ (List.mem_of_getElem? (i := 1) rfl)) rfl rfl dX2_goesBefore_1 ?_
  refine lv_aload_n hx hb dX2_goesBefore_4 rfl (lv_at hl 1 rfl) ?_
  refine ck_get (v := .int u1) hx hb hts hinX2 hown hK hW hNj hFj rfl 1 (by decide) (hts _ (List.mem_of_getElem? (i := 1) rfl)) rfl rfl dX2_goesBefore_5 ?_
  refine lv_icmp_eq (tgt := 28) hx hb dX2_goesBefore_8 (by decide) (fun c_8 => ?_) (fun c_8 => ?_)
  · skip
    refine lv_aload_n hx hb dX2_goesBefore_28 rfl (lv_at hl 0 rfl) ?_
    refine ck_get (v := .int r2) hx hb hts hinX2 hown hK hW hN hF rfl 2 (by decide) (hts _ (List.mem_of_getElem? (i := 2) rfl)) rfl rfl dX2_goesBefore_29 ?_
    refine lv_aload_n hx hb dX2_goesBefore_32 rfl (lv_at hl 1 rfl) ?_
    refine ck_get (v := .int u2) hx hb hts hinX2 hown hK hW hNj hFj rfl 2 (by decide) (hts _ (List.mem_of_getElem? (i := 2) rfl)) rfl rfl dX2_goesBefore_33 ?_
    refine lv_icmp_eq (tgt := 58) hx hb dX2_goesBefore_36 (by decide) (fun c_36 => ?_) (fun c_36 => ?_)
    · skip
      refine lv_aload_n hx hb dX2_goesBefore_58 rfl (lv_at hl 0 rfl) ?_
      refine ck_get (v := .int r0) hx hb hts hinX2 hown hK hW hN hF rfl 0 (by decide) (hts _ (List.mem_of_getElem? (i := 3) rfl)) rfl rfl dX2_goesBefore_59 ?_
      refine lv_aload_n hx hb dX2_goesBefore_62 rfl (lv_at hl 1 rfl) ?_
      refine ck_get (v := .int u0) hx hb hts hinX2 hown hK hW hNj hFj rfl 0 (by decide) (hts _ (List.mem_of_getElem? (i := 3) rfl)) rfl rfl dX2_goesBefore_63 ?_
      refine lv_icmp_le (tgt := 73) hx hb dX2_goesBefore_66 (by decide) (fun c_66 => ?_) (fun c_66 => ?_)
      · skip
        refine lv_iconst (v := 0) hx hb dX2_goesBefore_73 (by decide) ?_
        exact W.zret (v := 0) hx hb hr rfl (fun t ht hW9 => ⟨_, rfl, Or.inr ⟨by unfold ck_bef; rw [if_pos c_8, if_pos c_36]; exact Int32.not_lt.mpr c_66, rfl⟩, ht⟩) (fun _ h => nomatch h) dX2_goesBefore_74
      · skip
        refine lv_iconst (v := 1) hx hb dX2_goesBefore_69 (by decide) ?_
        refine lv_goto (tgt := 74) hx hb dX2_goesBefore_70 (by decide) ?_
        exact W.zret (v := 1) hx hb hr rfl (fun t ht hW9 => ⟨_, rfl, Or.inl ⟨by unfold ck_bef; rw [if_pos c_8, if_pos c_36]; exact Int32.not_le.mp c_66, rfl⟩, ht⟩) (fun _ h => nomatch h) dX2_goesBefore_74
    · skip
      refine lv_aload_n hx hb dX2_goesBefore_39 rfl (lv_at hl 0 rfl) ?_
      refine ck_get (v := .int r2) hx hb hts hinX2 hown hK hW hN hF rfl 2 (by decide) (hts _ (List.mem_of_getElem? (i := 2) rfl)) rfl rfl dX2_goesBefore_40 ?_
      refine lv_aload_n hx hb dX2_goesBefore_43 rfl (lv_at hl 1 rfl) ?_
      refine ck_get (v := .int u2) hx hb hts hinX2 hown hK hW hNj hFj rfl 2 (by decide) (hts _ (List.mem_of_getElem? (i := 2) rfl)) rfl rfl dX2_goesBefore_44 ?_
      refine lv_icmp_le (tgt := 54) hx hb dX2_goesBefore_47 (by decide) (fun c_47 => ?_) (fun c_47 => ?_)
      · skip
        refine lv_iconst (v := 0) hx hb dX2_goesBefore_54 (by decide) ?_
        refine lv_goto (tgt := 74) hx hb dX2_goesBefore_55 (by decide) ?_
        exact W.zret (v := 0) hx hb hr rfl (fun t ht hW9 => ⟨_, rfl, Or.inr ⟨by unfold ck_bef; rw [if_pos c_8, if_neg c_36]; exact Int32.not_lt.mpr c_47, rfl⟩, ht⟩) (fun _ h => nomatch h) dX2_goesBefore_74
      · skip
        refine lv_iconst (v := 1) hx hb dX2_goesBefore_50 (by decide) ?_
        refine lv_goto (tgt := 74) hx hb dX2_goesBefore_51 (by decide) ?_
        exact W.zret (v := 1) hx hb hr rfl (fun t ht hW9 => ⟨_, rfl, Or.inl ⟨by unfold ck_bef; rw [if_pos c_8, if_neg c_36]; exact Int32.not_le.mp c_47, rfl⟩, ht⟩) (fun _ h => nomatch h) dX2_goesBefore_74
  · skip
    refine lv_aload_n hx hb dX2_goesBefore_11 rfl (lv_at hl 0 rfl) ?_
    refine ck_get (v := .int r1) hx hb hts hinX2 hown hK hW hN hF rfl 1 (by decide) (hts _ (List.mem_of_getElem? (i := 1) rfl)) rfl rfl dX2_goesBefore_12 ?_
    refine lv_aload_n hx hb dX2_goesBefore_15 rfl (lv_at hl 1 rfl) ?_
    refine ck_get (v := .int u1) hx hb hts hinX2 hown hK hW hNj hFj rfl 1 (by decide) (hts _ (List.mem_of_getElem? (i := 1) rfl)) rfl rfl dX2_goesBefore_16 ?_
    refine lv_icmp_le (tgt := 26) hx hb dX2_goesBefore_19 (by decide) (fun c_19 => ?_) (fun c_19 => ?_)
    · skip
      refine lv_iconst (v := 0) hx hb dX2_goesBefore_26 (by decide) ?_
      exact W.zret (v := 0) hx hb hr rfl (fun t ht hW9 => ⟨_, rfl, Or.inr ⟨by unfold ck_bef; rw [if_neg c_8]; exact Int32.not_lt.mpr c_19, rfl⟩, ht⟩) (fun _ h => nomatch h) dX2_goesBefore_27
    · skip
      refine lv_iconst (v := 1) hx hb dX2_goesBefore_22 (by decide) ?_
      refine lv_goto (tgt := 27) hx hb dX2_goesBefore_23 (by decide) ?_
      exact W.zret (v := 1) hx hb hr rfl (fun t ht hW9 => ⟨_, rfl, Or.inl ⟨by unfold ck_bef; rw [if_neg c_8]; exact Int32.not_le.mp c_19, rfl⟩, ht⟩) (fun _ h => nomatch h) dX2_goesBefore_27
def ck_miss (n lo hi : Int32) : Int32 := if n = 0 then 0 else hi - lo + 1 - n
theorem ck_cmp0 (x : Int64) : lg_cmp x 0 = 0 ↔ x = 0 := by
  unfold lg_cmp
  by_cases h2 : x = 0
  · subst h2; decide
  · by_cases h1 : x < 0
    · simp [h1, h2]
      try (by_cases h3 : 0 < x <;> simp [h3])
    · simp [h1, h2]
      try (by_cases h3 : 0 < x <;> simp [h3])
set_option maxHeartbeats 4000000 in
set_option maxRecDepth 100000 in
theorem ct_X3_missing (l : Launch) (G : ck_G) (H : Heap) (ad : Nat → Nat) (N : Nat → Prop) (F : Nat → va_E) (hW : ck_W G ad N F H) (i : Nat) (hN : N i) (j : Nat) (v1 v2 v3 v4 : Int32) (hF : F i = .inr (3, [.ref (ad j), .int v1, .int v2, .int v3, .int v4])) : Met l yX3_missing wsX3_missing ({ frames := 0, cells := 0, slots := 0, locals := 0 }) (ck_P G H [.ref (ad i)]) (vp_Si (fun r => r = ck_miss v1 v2 v3)) 0 0 (fun _ => False) := by
  refine Met.ofW (cc := cX3_missing) (maxL := 1) (ret := (some .int)) (by decide) rfl ?_
  intro p e s m args below meth c s₁ B hml hv
  obtain ⟨rfl, hH, hKK⟩ := hv
  subst hH
  have hx := B.exec
  have hb := B.bytes
  have hr := B.returns
  have hts := atoms_spec (ws := wsX3_missing) B.pre
  have hown : s.vm.findClass RX3 = some m.cls := findClass_of_methodNamed B.named
  have hlocks := B.notSynchronized
  have hKK0 := hKK
  have hK := hKK.1.1
  have hinX3 : ∀ w ∈ u_ws RX3 TX3 5, w ∈ wsX3_missing := by decide +kernel
  have hl := lv_entry ([.ref (ad i)]) (n := 1) (Nat.le_of_ble_eq_true rfl)
  rw [lg_entry_eq]
  generalize (lg_sl ([.ref (ad i)]) ++ List.replicate (1 - (lg_sl ([.ref (ad i)])).length) Slot.unset).toArray = ls at hl ⊢
  have hl : lv_has ls 1 [(0, .ref (ad i))] := hl
  refine lv_aload_n hx hb dX3_missing_0 rfl (lv_at hl 0 rfl) ?_
  refine ck_get (v := .int v1) hx hb hts hinX3 hown hK hW hN hF rfl 1 (by decide) (hts _ (List.mem_of_getElem? (i := 1) rfl)) rfl rfl dX3_missing_1 ?_
  refine lv_if_ne (tgt := 11) hx hb dX3_missing_4 (by decide) (fun c_4 => ?_) (fun c_4 => ?_)
  · skip
    refine lv_aload_n hx hb dX3_missing_11 rfl (lv_at hl 0 rfl) ?_
    refine ck_get (v := .int v3) hx hb hts hinX3 hown hK hW hN hF rfl 3 (by decide) (hts _ (List.mem_of_getElem? (i := 2) rfl)) rfl rfl dX3_missing_12 ?_
    refine lv_aload_n hx hb dX3_missing_15 rfl (lv_at hl 0 rfl) ?_
    refine ck_get (v := .int v2) hx hb hts hinX3 hown hK hW hN hF rfl 2 (by decide) (hts _ (List.mem_of_getElem? (i := 3) rfl)) rfl rfl dX3_missing_16 ?_
    refine lv_isub hx hb dX3_missing_19 ?_
    refine lv_iconst (v := 1) hx hb dX3_missing_20 (by decide) ?_
    refine lv_iadd hx hb dX3_missing_21 ?_
    refine lv_aload_n hx hb dX3_missing_22 rfl (lv_at hl 0 rfl) ?_
    refine ck_get (v := .int v1) hx hb hts hinX3 hown hK hW hN hF rfl 1 (by decide) (hts _ (List.mem_of_getElem? (i := 1) rfl)) rfl rfl dX3_missing_23 ?_
    refine lv_isub hx hb dX3_missing_26 ?_
    exact W.iret (v := (((((v3 - v2)) + 1)) - v1)) hx hb hr (fun t ht hW9 => ⟨_, rfl, (by simp [ck_miss, c_4]), ht⟩) (fun _ h => nomatch h) dX3_missing_27
  · skip
    refine lv_iconst (v := 0) hx hb dX3_missing_7 (by decide) ?_
    refine lv_goto (tgt := 27) hx hb dX3_missing_8 (by decide) ?_
    exact W.iret (v := 0) hx hb hr (fun t ht hW9 => ⟨_, rfl, (by simp [ck_miss, c_4]), ht⟩) (fun _ h => nomatch h) dX3_missing_27
set_option maxHeartbeats 4000000 in
set_option maxRecDepth 100000 in
theorem ct_X3_has (l : Launch) (G : ck_G) (H : Heap) (ad : Nat → Nat) (N : Nat → Prop) (F : Nat → va_E) (hW : ck_W G ad N F H) (i : Nat) (hN : N i) (j : Nat) (v1 v2 v3 v4 : Int32) (hF : F i = .inr (3, [.ref (ad j), .int v1, .int v2, .int v3, .int v4])) (hNj : N j) (w : Nat → Int64) (hFj : F j = .inl (G.2.1 1, 157, .inr (.inl w))) (q : Nat) (hq : q < 10000) : Met l yX3_has wsX3_has ({ frames := 1, cells := 0, slots := 0, locals := 20 }) (ck_P G H [.ref (ad i), .int (nI q)]) (vp_Si (fun r => ck_b (¬ (w (q / 64) &&& ck_bit (nI q)) = 0) r)) 0 0 (fun _ => False) := by
  refine Met.ofW (cc := cX3_has) (maxL := 3) (ret := (some .boolean)) (by decide) rfl ?_
  intro p e s m args below meth c s₁ B hml hv
  obtain ⟨rfl, hH, hKK⟩ := hv
  subst hH
  have hx := B.exec
  have hb := B.bytes
  have hr := B.returns
  have hts := atoms_spec (ws := wsX3_has) B.pre
  have hown : s.vm.findClass RX3 = some m.cls := findClass_of_methodNamed B.named
  have hlocks := B.notSynchronized
  have hKK0 := hKK
  have hK := hKK.1.1
  have hinX3 : ∀ w ∈ u_ws RX3 TX3 5, w ∈ wsX3_has := by decide +kernel
  have hl := lv_entry ([.ref (ad i), .int (nI q)]) (n := 3) (Nat.le_of_ble_eq_true rfl)
  rw [lg_entry_eq]
  generalize (lg_sl ([.ref (ad i), .int (nI q)]) ++ List.replicate (3 - (lg_sl ([.ref (ad i), .int (nI q)])).length) Slot.unset).toArray = ls at hl ⊢
  have hl : lv_has ls 3 [(0, .ref (ad i)), (1, .int (nI q))] := hl
  have hq64 : nI q / 64 = nI (q / 64) := pk_div (by omega) (by decide) (by decide)
  refine lv_iload_n hx hb dX3_has_0 rfl (lv_at hl 1 rfl) ?_
  refine lv_bipush (v := 64) hx hb dX3_has_1 (by decide) ?_
  refine lv_idiv hx hb dX3_has_3 (by decide) ?_
  refine lv_istore_n (lv' := [(2, .int (((nI q)) / 64)), (0, .ref (ad i)), (1, .int (nI q))]) hx hb dX3_has_4 rfl hl (by decide) rfl (fun ls hl => ?_)
  refine lv_iload_n hx hb dX3_has_5 rfl (lv_at hl 2 rfl) ?_
  refine lv_if_lt (tgt := 38) hx hb dX3_has_6 (by decide) (fun c_6 => absurd c_6 (nI_pos (by omega))) (fun _ => ?_)
  refine lv_iload_n hx hb dX3_has_9 rfl (lv_at hl 0 rfl) ?_
  refine lv_aload_n hx hb dX3_has_10 rfl (lv_at hl 1 rfl) ?_
  refine ck_get (v := .ref (ad j)) hx hb hts hinX3 hown hK hW hN hF rfl 0 (by decide) (hts _ (List.mem_of_getElem? (i := 1) rfl)) rfl rfl dX3_has_11 ?_
  refine ck_alen (v := 157) hx hb hK hW hNj hFj 1 rfl rfl dX3_has_14 ?_
  refine lv_icmp_ge (tgt := 38) hx hb dX3_has_15 (by decide) (fun c_15 => absurd c_15 (by rw [hq64]; exact nI_ge (a := q / 64) (b := 157) (by omega) (by decide))) (fun _ => ?_)
  refine lv_aload_n hx hb dX3_has_18 rfl (lv_at hl 1 rfl) ?_
  refine ck_get (v := .ref (ad j)) hx hb hts hinX3 hown hK hW hN hF rfl 0 (by decide) (hts _ (List.mem_of_getElem? (i := 1) rfl)) rfl rfl dX3_has_19 ?_
  refine lv_iload_n hx hb dX3_has_22 rfl (lv_at hl 0 rfl) ?_
  refine ck_lald hx hb hK hW hNj hFj (q / 64) (hq64) (by omega) (by decide) dX3_has_23 ?_
  refine lv_iload_n hx hb dX3_has_24 rfl (lv_at hl 2 rfl) ?_
  refine ck_cSl (As := [.int (nI q)]) (rest := [.long (w (q / 64))]) ⟨hx, hb, hml, hown, hts⟩ hKK (ct_X3_bitOf l G s.heap ((nI q))) (va_cwS 1 hts gX3_has_X3_bitOf rfl rfl rfl (by decide +kernel) ⟨Nat.le_of_ble_eq_true rfl, Nat.le_of_ble_eq_true rfl⟩) rfl hl rfl (Nat.le_of_ble_eq_true rfl) dX3_has_25 ⟨Nat.le_of_ble_eq_true rfl, Nat.le_of_ble_eq_true rfl⟩ (fun r_25 h_25 => ?_)
  subst h_25
  refine lv_land hx hb dX3_has_28 ?_
  refine lv_lconst (v := 0) hx hb dX3_has_29 (by decide) ?_
  refine W.lcmp hx hb dX3_has_30 ?_
  refine lv_if_eq (tgt := 38) hx hb dX3_has_31 (by decide) (fun c_31 => ?_) (fun c_31 => ?_)
  · skip
    refine lv_iconst (v := 0) hx hb dX3_has_38 (by decide) ?_
    exact W.zret (v := 0) hx hb hr rfl (fun t ht hW9 => ⟨_, rfl, Or.inr ⟨fun h => h ((ck_cmp0 _).mp c_31), rfl⟩, ht⟩) (fun _ h => nomatch h) dX3_has_39
  · skip
    refine lv_iconst (v := 1) hx hb dX3_has_34 (by decide) ?_
    refine lv_goto (tgt := 39) hx hb dX3_has_35 (by decide) ?_
    exact W.zret (v := 1) hx hb hr rfl (fun t ht hW9 => ⟨_, rfl, Or.inl ⟨fun h => c_31 ((ck_cmp0 _).mpr h), rfl⟩, ht⟩) (fun _ h => nomatch h) dX3_has_39
set_option maxHeartbeats 4000000 in
set_option maxRecDepth 100000 in
theorem ct_X3_add (l : Launch) (G : ck_G) (H : Heap) (ad : Nat → Nat) (N : Nat → Prop) (F : Nat → va_E) (hW : ck_W G ad N F H) (i : Nat) (hN : N i) (j : Nat) (v1 v2 v3 v4 : Int32) (hF : F i = .inr (3, [.ref (ad j), .int v1, .int v2, .int v3, .int v4])) (hNj : N j) (w : Nat → Int64) (hFj : F j = .inl (G.2.1 1, 157, .inr (.inl w))) (hij : i ≠ j) (q : Nat) (hq : q < 10000) : Met l yX3_add wsX3_add ({ frames := 1, cells := 0, slots := 0, locals := 21 }) (ck_P G H [.ref (ad i), .int (nI q)]) (ck_Qv G (fun H1 => ck_W G ad N (va_up (va_up F j (.inl (G.2.1 1, 157, .inr (.inl (vp_updL w (q / 64) (w (q / 64) ||| ck_bit (nI q))))))) i (.inr (3, [.ref (ad j), .int (v1 + 1), .int (ck_min v2 (nI q)), .int (ck_max v3 (nI q)), .int v4]))) H1)) 0 0 (ck_A G) := by
  refine Met.ofW (cc := cX3_add) (maxL := 3) (ret := none) (by decide) rfl ?_
  intro p e s m args below meth c s₁ B hml hv
  obtain ⟨rfl, hH, hKK⟩ := hv
  subst hH
  have hx := B.exec
  have hb := B.bytes
  have hr := B.returns
  have hts := atoms_spec (ws := wsX3_add) B.pre
  have hown : s.vm.findClass RX3 = some m.cls := findClass_of_methodNamed B.named
  have hlocks := B.notSynchronized
  have hKK0 := hKK
  have hK := hKK.1.1
  have hS : va_S (ck_A G) s.heap s.heap [] := va_S.rf
  have hinX3 : ∀ w ∈ u_ws RX3 TX3 5, w ∈ wsX3_add := by decide +kernel
  have hl := lv_entry ([.ref (ad i), .int (nI q)]) (n := 3) (Nat.le_of_ble_eq_true rfl)
  rw [lg_entry_eq]
  generalize (lg_sl ([.ref (ad i), .int (nI q)]) ++ List.replicate (3 - (lg_sl ([.ref (ad i), .int (nI q)])).length) Slot.unset).toArray = ls at hl ⊢
  have hl : lv_has ls 3 [(0, .ref (ad i)), (1, .int (nI q))] := hl
  have hq64 : nI q / 64 = nI (q / 64) := pk_div (by omega) (by decide) (by decide)
  refine lv_iload_n hx hb dX3_add_0 rfl (lv_at hl 1 rfl) ?_
  refine lv_bipush (v := 64) hx hb dX3_add_1 (by decide) ?_
  refine lv_idiv hx hb dX3_add_3 (by decide) ?_
  refine lv_istore_n (lv' := [(2, .int (((nI q)) / 64)), (0, .ref (ad i)), (1, .int (nI q))]) hx hb dX3_add_4 rfl hl (by decide) rfl (fun ls hl => ?_)
  refine lv_iload_n hx hb dX3_add_5 rfl (lv_at hl 2 rfl) ?_
  refine lv_if_lt (tgt := 18) hx hb dX3_add_6 (by decide) (fun c_6 => absurd c_6 (nI_pos (by omega))) (fun _ => ?_)
  refine lv_iload_n hx hb dX3_add_9 rfl (lv_at hl 0 rfl) ?_
  refine lv_aload_n hx hb dX3_add_10 rfl (lv_at hl 1 rfl) ?_
  refine ck_get (v := .ref (ad j)) hx hb hts hinX3 hown hK hW hN hF rfl 0 (by decide) (hts _ (List.mem_of_getElem? (i := 1) rfl)) rfl rfl dX3_add_11 ?_
  refine ck_alen (v := 157) hx hb hK hW hNj hFj 1 rfl rfl dX3_add_14 ?_
  refine lv_icmp_lt (tgt := 19) hx hb dX3_add_15 (by decide) (fun _ => ?_) (fun c_15 => absurd (by rw [hq64]; exact nI_lt (a := q / 64) (b := 157) (by omega) (by decide)) c_15)
  refine lv_aload_n hx hb dX3_add_19 rfl (lv_at hl 1 rfl) ?_
  refine ck_get (v := .ref (ad j)) hx hb hts hinX3 hown hK hW hN hF rfl 0 (by decide) (hts _ (List.mem_of_getElem? (i := 1) rfl)) rfl rfl dX3_add_20 ?_
  refine lv_iload_n hx hb dX3_add_23 rfl (lv_at hl 0 rfl) ?_
  refine lv_dup2_11 hx hb dX3_add_24 rfl rfl ?_
  refine ck_lald hx hb hK hW hNj hFj (q / 64) (hq64) (by omega) (by decide) dX3_add_25 ?_
  refine lv_iload_n hx hb dX3_add_26 rfl (lv_at hl 2 rfl) ?_
  refine ck_cSl (As := [.int (nI q)]) (rest := [.long (w (q / 64)), .int (((nI q)) / 64), .ref (ad j)]) ⟨hx, hb, hml, hown, hts⟩ hKK (ct_X3_bitOf l G s.heap ((nI q))) (va_cwS 1 hts gX3_add_X3_bitOf rfl rfl rfl (by decide +kernel) ⟨Nat.le_of_ble_eq_true rfl, Nat.le_of_ble_eq_true rfl⟩) rfl hl rfl (Nat.le_of_ble_eq_true rfl) dX3_add_27 ⟨Nat.le_of_ble_eq_true rfl, Nat.le_of_ble_eq_true rfl⟩ (fun r_27 h_27 => ?_)
  subst h_27
  refine lv_lor hx hb dX3_add_30 ?_
  refine ck_last hx hb hK hW hS hNj hFj (q / 64) (hq64) (by omega) (by decide) dX3_add_31 (fun H locs hW hS hz31 => ?_)
  have hFI31 := (va_up_ne (k := j) (j := i) F (.inl (G.2.1 1, 157, .inr (.inl (vp_updL w (q / 64) ((((w (q / 64))) ||| ((ck_bit ((nI q)))))))))) (by omega)).trans hF
  have hFJ31 := va_up_self F j (.inl (G.2.1 1, 157, .inr (.inl (vp_updL w (q / 64) ((((w (q / 64))) ||| ((ck_bit ((nI q))))))))))
  have hKK := hKK0.keep hS.2.1
  refine lv_aload_n hx hb dX3_add_32 rfl (lv_at hl 1 rfl) ?_
  refine lv_dup hx hb dX3_add_33 rfl ?_
  refine ck_get (v := .int v1) hx hb hts hinX3 hown hK hW hN hFI31 rfl 1 (by decide) (hts _ (List.mem_of_getElem? (i := 2) rfl)) rfl rfl dX3_add_34 ?_
  refine lv_iconst (v := 1) hx hb dX3_add_37 (by decide) ?_
  refine lv_iadd hx hb dX3_add_38 ?_
  refine ck_put (v := .int (v1 + 1)) (ty := .int) hx hb hts hinX3 tyX3 tyX3_ok nmX3 hown hK hW hS hN hFI31 rfl 1 (by decide) (hts _ (List.mem_of_getElem? (i := 2) rfl)) rfl rfl (by decide +kernel) rfl rfl (Nat.le_of_ble_eq_true rfl) dX3_add_39 (fun H locs hW hS hz39 => ?_)
  have hFJ39 := (va_up_ne (k := i) (j := j) (va_up F j (.inl (G.2.1 1, 157, .inr (.inl (vp_updL w (q / 64) ((((w (q / 64))) ||| ((ck_bit ((nI q))))))))))) (.inr (3, [.ref (ad j), .int (v1 + 1), .int v2, .int v3, .int v4])) (by omega)).trans hFJ31
  have hFI39 := va_up_self (va_up F j (.inl (G.2.1 1, 157, .inr (.inl (vp_updL w (q / 64) ((((w (q / 64))) ||| ((ck_bit ((nI q))))))))))) i (.inr (3, [.ref (ad j), .int (v1 + 1), .int v2, .int v3, .int v4]))
  have hKK := hKK0.keep hS.2.1
  refine lv_aload_n hx hb dX3_add_42 rfl (lv_at hl 1 rfl) ?_
  refine lv_aload_n hx hb dX3_add_43 rfl (lv_at hl 1 rfl) ?_
  refine ck_get (v := .int v2) hx hb hts hinX3 hown hK hW hN hFI39 rfl 2 (by decide) (hts _ (List.mem_of_getElem? (i := 3) rfl)) rfl rfl dX3_add_44 ?_
  refine lv_iload_n hx hb dX3_add_47 rfl (lv_at hl 2 rfl) ?_
  refine va_mmin hx hb (hml.trans hl.1.symm) hown (hts _ (List.mem_of_getElem? (i := 4) rfl)) (hts _ (List.mem_of_getElem? (i := 5) rfl)) (hts _ (List.mem_of_getElem? (i := 6) rfl)) (hts _ (List.mem_of_getElem? (i := 7) rfl)) (Nat.le_of_ble_eq_true rfl) (Nat.le_of_ble_eq_true rfl) (Nat.le_of_ble_eq_true rfl) (Nat.le_of_ble_eq_true rfl) dX3_add_48 ?_
  refine ck_put (v := .int (if (nI q) < v2 then (nI q) else v2)) (ty := .int) hx hb hts hinX3 tyX3 tyX3_ok nmX3 hown hK hW hS hN hFI39 rfl 2 (by decide) (hts _ (List.mem_of_getElem? (i := 3) rfl)) rfl rfl (by decide +kernel) rfl rfl (Nat.le_of_ble_eq_true rfl) dX3_add_51 (fun H locs hW hS hz51 => ?_)
  have hFJ51 := (va_up_ne (k := i) (j := j) (va_up (va_up F j (.inl (G.2.1 1, 157, .inr (.inl (vp_updL w (q / 64) ((((w (q / 64))) ||| ((ck_bit ((nI q))))))))))) i (.inr (3, [.ref (ad j), .int (v1 + 1), .int v2, .int v3, .int v4]))) (.inr (3, [.ref (ad j), .int (v1 + 1), .int (if (nI q) < v2 then (nI q) else v2), .int v3, .int v4])) (by omega)).trans hFJ39
  have hFI51 := va_up_self (va_up (va_up F j (.inl (G.2.1 1, 157, .inr (.inl (vp_updL w (q / 64) ((((w (q / 64))) ||| ((ck_bit ((nI q))))))))))) i (.inr (3, [.ref (ad j), .int (v1 + 1), .int v2, .int v3, .int v4]))) i (.inr (3, [.ref (ad j), .int (v1 + 1), .int (if (nI q) < v2 then (nI q) else v2), .int v3, .int v4]))
  have hKK := hKK0.keep hS.2.1
  refine lv_aload_n hx hb dX3_add_54 rfl (lv_at hl 1 rfl) ?_
  refine lv_aload_n hx hb dX3_add_55 rfl (lv_at hl 1 rfl) ?_
  refine ck_get (v := .int v3) hx hb hts hinX3 hown hK hW hN hFI51 rfl 3 (by decide) (hts _ (List.mem_of_getElem? (i := 8) rfl)) rfl rfl dX3_add_56 ?_
  refine lv_iload_n hx hb dX3_add_59 rfl (lv_at hl 2 rfl) ?_
  refine va_mmax hx hb (hml.trans hl.1.symm) hown (hts _ (List.mem_of_getElem? (i := 9) rfl)) (hts _ (List.mem_of_getElem? (i := 10) rfl)) (hts _ (List.mem_of_getElem? (i := 6) rfl)) (hts _ (List.mem_of_getElem? (i := 11) rfl)) (Nat.le_of_ble_eq_true rfl) (Nat.le_of_ble_eq_true rfl) (Nat.le_of_ble_eq_true rfl) (Nat.le_of_ble_eq_true rfl) dX3_add_60 ?_
  refine ck_put (v := .int (if v3 < (nI q) then (nI q) else v3)) (ty := .int) hx hb hts hinX3 tyX3 tyX3_ok nmX3 hown hK hW hS hN hFI51 rfl 3 (by decide) (hts _ (List.mem_of_getElem? (i := 8) rfl)) rfl rfl (by decide +kernel) rfl rfl (Nat.le_of_ble_eq_true rfl) dX3_add_63 (fun H locs hW hS hz63 => ?_)
  have hFJ63 := (va_up_ne (k := i) (j := j) (va_up (va_up (va_up F j (.inl (G.2.1 1, 157, .inr (.inl (vp_updL w (q / 64) ((((w (q / 64))) ||| ((ck_bit ((nI q))))))))))) i (.inr (3, [.ref (ad j), .int (v1 + 1), .int v2, .int v3, .int v4]))) i (.inr (3, [.ref (ad j), .int (v1 + 1), .int (if (nI q) < v2 then (nI q) else v2), .int v3, .int v4]))) (.inr (3, [.ref (ad j), .int (v1 + 1), .int (if (nI q) < v2 then (nI q) else v2), .int (if v3 < (nI q) then (nI q) else v3), .int v4])) (by omega)).trans hFJ51
  have hFI63 := va_up_self (va_up (va_up (va_up F j (.inl (G.2.1 1, 157, .inr (.inl (vp_updL w (q / 64) ((((w (q / 64))) ||| ((ck_bit ((nI q))))))))))) i (.inr (3, [.ref (ad j), .int (v1 + 1), .int v2, .int v3, .int v4]))) i (.inr (3, [.ref (ad j), .int (v1 + 1), .int (if (nI q) < v2 then (nI q) else v2), .int v3, .int v4]))) i (.inr (3, [.ref (ad j), .int (v1 + 1), .int (if (nI q) < v2 then (nI q) else v2), .int (if v3 < (nI q) then (nI q) else v3), .int v4]))
  have hKK := hKK0.keep hS.2.1
  exact W.vret hx hb hr (fun t ht hW9 => ⟨⟨rfl, by rw [ht]; exact hW.eq (by rw [ck_up2, ck_up2]; rfl)⟩, hS.F ht⟩) hS.2.2 dX3_add_66
def ck_pl (f : Nat → Int32) (x : Int32) : Nat → Nat → Int32
  | _, 0 => -1
  | k, n + 1 => if f k = x then nI k else ck_pl f x (k + 1) n
def ck_place (f : Nat → Int32) (x : Int32) : Int32 := ck_pl f x 0 10
theorem ck_pl_in (f : Nat → Int32) (x : Int32) : ∀ n k, ck_pl f x k n = -1 ∨ ∃ j, k ≤ j ∧ j < k + n ∧ ck_pl f x k n = nI j ∧ f j = x
  | 0, k => Or.inl rfl
  | n + 1, k => by
    by_cases h : f k = x
    · exact Or.inr ⟨k, Nat.le_refl _, by omega, by simp [ck_pl, h], h⟩
    · rcases ck_pl_in f x n (k + 1) with e | ⟨j, h1, h2, h3, h4⟩
      · exact Or.inl (by simp [ck_pl, h, e])
      · exact Or.inr ⟨j, by omega, by omega, by simp [ck_pl, h, h3], h4⟩
theorem ck_pl_no (f : Nat → Int32) (x : Int32) : ∀ n k, k + n < 2 ^ 31 → ck_pl f x k n = -1 → ∀ j, k ≤ j → j < k + n → f j ≠ x
  | 0, k, _, _, j, h1, h2 => by omega
  | n + 1, k, hk, e, j, h1, h2 => by
    by_cases h : f k = x
    · simp [ck_pl, h] at e
      exact absurd e (fun e => absurd (congrArg (fun z => decide (z < 0)) e) (by rw [decide_eq_false (nI_pos (show k < 2 ^ 31 by omega))]; decide))
    · by_cases h3 : j = k
      · subst h3; exact h
      · exact ck_pl_no f x n (k + 1) (by omega) (by simpa [ck_pl, h] using e) j (by omega) (by omega)
theorem ck_place_in (f : Nat → Int32) (x : Int32) : ck_place f x = -1 ∨ ∃ j, j < 10 ∧ ck_place f x = nI j ∧ f j = x := by
  rcases ck_pl_in f x 10 0 with h | ⟨j, -, h2, h3, h4⟩
  · exact Or.inl h
  · exact Or.inr ⟨j, by omega, h3, h4⟩
theorem ck_pl_go {f : Nat → Int32} {x z : Int32} {k : Nat} (hk : k < 10) (c : ¬ f k = x) (hI : ck_pl f x k (10 - k) = z) : ck_pl f x (k + 1) (10 - (k + 1)) = z := by
  rw [show 10 - k = (10 - (k + 1)) + 1 by omega] at hI
  rw [← hI]; simp [ck_pl, c]
theorem ck_pl_hit {f : Nat → Int32} {x z : Int32} {k : Nat} (hk : k < 10) (c : f k = x) (hI : ck_pl f x k (10 - k) = z) : nI k = z := by
  rw [show 10 - k = (10 - (k + 1)) + 1 by omega] at hI
  rw [← hI]; simp [ck_pl, c]
set_option maxHeartbeats 4000000 in
set_option maxRecDepth 100000 in
theorem ct_X1_placeOf (l : Launch) (G : ck_G) (H : Heap) (ad : Nat → Nat) (N : Nat → Prop) (F : Nat → va_E) (hW : ck_W G ad N F H) (i : Nat) (hN : N i) (j k : Nat) (hF : F i = .inr (1, [.ref (ad j), .ref (ad k)])) (hNj : N j) (f : Nat → Int32) (hFj : F j = .inl (G.2.1 0, 10, .inl f)) (a0 : Int32) : Met l yX1_placeOf wsX1_placeOf ({ frames := 0, cells := 0, slots := 0, locals := 0 }) (ck_P G H [.ref (ad i), .int a0]) (vp_Si (fun r => r = ck_place f a0)) 0 0 (fun _ => False) := by
  refine Met.ofW (cc := cX1_placeOf) (maxL := 3) (ret := (some .int)) (by decide) rfl ?_
  intro p e s m args below meth c s₁ B hml hv
  obtain ⟨rfl, hH, hKK⟩ := hv
  subst hH
  have hx := B.exec
  have hb := B.bytes
  have hr := B.returns
  have hts := atoms_spec (ws := wsX1_placeOf) B.pre
  have hown : s.vm.findClass RX1 = some m.cls := findClass_of_methodNamed B.named
  have hlocks := B.notSynchronized
  have hKK0 := hKK
  have hK := hKK.1.1
  have hinX1 : ∀ w ∈ u_ws RX1 TX1 2, w ∈ wsX1_placeOf := by decide +kernel
  have hl := lv_entry ([.ref (ad i), .int a0]) (n := 3) (Nat.le_of_ble_eq_true rfl)
  rw [lg_entry_eq]
  generalize (lg_sl ([.ref (ad i), .int a0]) ++ List.replicate (3 - (lg_sl ([.ref (ad i), .int a0])).length) Slot.unset).toArray = ls at hl ⊢
  have hl : lv_has ls 3 [(0, .ref (ad i)), (1, .int a0)] := hl
  refine lv_iconst (v := 0) hx hb dX1_placeOf_0 (by decide) ?_
  refine lv_istore_n (lv' := [(2, .int 0), (0, .ref (ad i)), (1, .int a0)]) hx hb dX1_placeOf_1 rfl hl (by decide) rfl (fun ls hl => ?_)
  refine ck_loop (P := fun ls => W p l e _ s m _ below meth c _ _ _ _ _ (F0 m _ ls _)) 10 (fun k => [(2, .int (nI k)), (0, .ref (ad i)), (1, .int a0)]) (fun k => ck_pl f a0 k (10 - k) = ck_place f a0) (lv_sub hl [0, 1, 2] rfl) (rfl) ?_ ?_
  · intro ls hl hI2
    have hl : lv_has ls 3 [(2, .int (nI 10)), (0, .ref (ad i)), (1, .int a0)] := hl
    refine lv_iload_n hx hb dX1_placeOf_2 rfl (lv_at hl 0 rfl) ?_
    refine lv_bipush (v := 10) hx hb dX1_placeOf_3 (by decide) ?_
    refine lv_icmp_ge (tgt := 26) hx hb dX1_placeOf_5 (by decide) (fun _ => ?_) (fun c_5 => absurd (Int32.le_refl _) c_5)
    refine lv_iconst (v := (-1)) hx hb dX1_placeOf_26 (by decide) ?_
    exact W.iret (v := (-1)) hx hb hr (fun t ht hW9 => ⟨_, rfl, hI2, ht⟩) (fun _ h => nomatch h) dX1_placeOf_27
  · intro k2 hk2 hI2 ih2 ls hl
    have hl : lv_has ls 3 [(2, .int (nI k2)), (0, .ref (ad i)), (1, .int a0)] := hl
    refine lv_iload_n hx hb dX1_placeOf_2 rfl (lv_at hl 0 rfl) ?_
    refine lv_bipush (v := 10) hx hb dX1_placeOf_3 (by decide) ?_
    refine lv_icmp_ge (tgt := 26) hx hb dX1_placeOf_5 (by decide) (fun c_5 => absurd c_5 (nI_ge hk2 (by decide))) (fun _ => ?_)
    refine lv_aload_n hx hb dX1_placeOf_8 rfl (lv_at hl 1 rfl) ?_
    refine ck_get (v := .ref (ad j)) hx hb hts hinX1 hown hK hW hN hF rfl 0 (by decide) (hts _ (List.mem_of_getElem? (i := 1) rfl)) rfl rfl dX1_placeOf_9 ?_
    refine lv_iload_n hx hb dX1_placeOf_12 rfl (lv_at hl 0 rfl) ?_
    refine ck_iald hx hb hK hW hNj hFj k2 (rfl) (by omega) (by decide) dX1_placeOf_13 ?_
    refine lv_iload_n hx hb dX1_placeOf_14 rfl (lv_at hl 2 rfl) ?_
    refine lv_icmp_ne (tgt := 20) hx hb dX1_placeOf_15 (by decide) (fun c_15 => ?_) (fun c_15 => ?_)
    · skip
      refine lv_iinc (v := nI (k2 + 1)) (lv' := [(2, .int (nI (k2 + 1))), (0, .ref (ad i)), (1, .int a0)]) hx hb dX1_placeOf_20 hl (k := 0) rfl (nI_1 k2) (by decide) rfl (fun ls hl => ?_)
      refine lv_goto (tgt := 2) hx hb dX1_placeOf_23 (by decide) ?_
      exact ih2 ls (lv_sub hl [0, 1, 2] rfl) (ck_pl_go hk2 c_15 hI2)
    · skip
      refine lv_iload_n hx hb dX1_placeOf_18 rfl (lv_at hl 0 rfl) ?_
      exact W.iret (v := (nI k2)) hx hb hr (fun t ht hW9 => ⟨_, rfl, ck_pl_hit hk2 c_15 hI2, ht⟩) (fun _ h => nomatch h) dX1_placeOf_19
set_option maxHeartbeats 4000000 in
set_option maxRecDepth 100000 in
theorem ct_X1_hasPlaceFor (l : Launch) (G : ck_G) (H : Heap) (ad : Nat → Nat) (N : Nat → Prop) (F : Nat → va_E) (hW : ck_W G ad N F H) (i : Nat) (hN : N i) (j k : Nat) (hF : F i = .inr (1, [.ref (ad j), .ref (ad k)])) (hNj : N j) (f : Nat → Int32) (hFj : F j = .inl (G.2.1 0, 10, .inl f)) (a0 : Int32) : Met l yX1_hasPlaceFor wsX1_hasPlaceFor ({ frames := 1, cells := 0, slots := 0, locals := 22 }) (ck_P G H [.ref (ad i), .int a0]) (vp_Si (fun r => ck_b (¬ ck_place f a0 = -1 ∨ ¬ ck_place f 0 = -1) r)) 0 0 (fun _ => False) := by
  refine Met.ofW (cc := cX1_hasPlaceFor) (maxL := 2) (ret := (some .boolean)) (by decide) rfl ?_
  intro p e s m args below meth c s₁ B hml hv
  obtain ⟨rfl, hH, hKK⟩ := hv
  subst hH
  have hx := B.exec
  have hb := B.bytes
  have hr := B.returns
  have hts := atoms_spec (ws := wsX1_hasPlaceFor) B.pre
  have hown : s.vm.findClass RX1 = some m.cls := findClass_of_methodNamed B.named
  have hlocks := B.notSynchronized
  have hKK0 := hKK
  have hK := hKK.1.1
  have hl := lv_entry ([.ref (ad i), .int a0]) (n := 2) (Nat.le_of_ble_eq_true rfl)
  rw [lg_entry_eq]
  generalize (lg_sl ([.ref (ad i), .int a0]) ++ List.replicate (2 - (lg_sl ([.ref (ad i), .int a0])).length) Slot.unset).toArray = ls at hl ⊢
  have hl : lv_has ls 2 [(0, .ref (ad i)), (1, .int a0)] := hl
  refine lv_aload_n hx hb dX1_hasPlaceFor_0 rfl (lv_at hl 0 rfl) ?_
  refine lv_iload_n hx hb dX1_hasPlaceFor_1 rfl (lv_at hl 1 rfl) ?_
  refine ck_cVi (As := [.int a0]) (rest := []) ⟨hx, hb, hml, hown, hts⟩ hKK (ct_X1_placeOf l G s.heap ad N F hW i hN j k hF hNj f hFj a0) (cwV 1 hts gX1_hasPlaceFor_X1_placeOf rfl rfl rfl (by decide +kernel) ⟨Nat.le_of_ble_eq_true rfl, Nat.le_of_ble_eq_true rfl⟩) (ck_recv hK hW hN hF rfl) rfl hl rfl (Nat.le_of_ble_eq_true rfl) dX1_hasPlaceFor_2 ⟨Nat.le_of_ble_eq_true rfl, Nat.le_of_ble_eq_true rfl⟩ (fun r_2 h_2 => ?_)
  subst h_2
  refine lv_iconst (v := (-1)) hx hb dX1_hasPlaceFor_5 (by decide) ?_
  refine lv_icmp_ne (tgt := 18) hx hb dX1_hasPlaceFor_6 (by decide) (fun c_6 => ?_) (fun c_6 => ?_)
  · skip
    refine lv_iconst (v := 1) hx hb dX1_hasPlaceFor_18 (by decide) ?_
    refine lv_goto (tgt := 23) hx hb dX1_hasPlaceFor_19 (by decide) ?_
    exact W.zret (v := 1) hx hb hr rfl (fun t ht hW9 => ⟨_, rfl, Or.inl ⟨Or.inl c_6, rfl⟩, ht⟩) (fun _ h => nomatch h) dX1_hasPlaceFor_23
  · skip
    refine lv_aload_n hx hb dX1_hasPlaceFor_9 rfl (lv_at hl 0 rfl) ?_
    refine lv_iconst (v := 0) hx hb dX1_hasPlaceFor_10 (by decide) ?_
    refine ck_cVi (As := [.int 0]) (rest := []) ⟨hx, hb, hml, hown, hts⟩ hKK (ct_X1_placeOf l G s.heap ad N F hW i hN j k hF hNj f hFj 0) (cwV 1 hts gX1_hasPlaceFor_X1_placeOf rfl rfl rfl (by decide +kernel) ⟨Nat.le_of_ble_eq_true rfl, Nat.le_of_ble_eq_true rfl⟩) (ck_recv hK hW hN hF rfl) rfl hl rfl (Nat.le_of_ble_eq_true rfl) dX1_hasPlaceFor_11 ⟨Nat.le_of_ble_eq_true rfl, Nat.le_of_ble_eq_true rfl⟩ (fun r_11 h_11 => ?_)
    subst h_11
    refine lv_iconst (v := (-1)) hx hb dX1_hasPlaceFor_14 (by decide) ?_
    refine lv_icmp_eq (tgt := 22) hx hb dX1_hasPlaceFor_15 (by decide) (fun c_15 => ?_) (fun c_15 => ?_)
    · skip
      refine lv_iconst (v := 0) hx hb dX1_hasPlaceFor_22 (by decide) ?_
      exact W.zret (v := 0) hx hb hr rfl (fun t ht hW9 => ⟨_, rfl, Or.inr ⟨fun h => h.elim (fun h => h c_6) (fun h => h c_15), rfl⟩, ht⟩) (fun _ h => nomatch h) dX1_hasPlaceFor_23
    · skip
      refine lv_iconst (v := 1) hx hb dX1_hasPlaceFor_18 (by decide) ?_
      refine lv_goto (tgt := 23) hx hb dX1_hasPlaceFor_19 (by decide) ?_
      exact W.zret (v := 1) hx hb hr rfl (fun t ht hW9 => ⟨_, rfl, Or.inl ⟨Or.inr c_15, rfl⟩, ht⟩) (fun _ h => nomatch h) dX1_hasPlaceFor_23
def ck_pf (f h : Nat → Int32) (x : Int32) : Nat → Int32 × Int32
  | 0 => (0, -1)
  | k + 1 => if (ck_pf f h x k).1 < f k ∧ ck_fit (f k) x = true then (f k, h k) else ck_pf f h x k
theorem ck_pf_yes {f h : Nat → Int32} {x : Int32} {k : Nat} (c : (ck_pf f h x k).1 < f k) (d : ck_fit (f k) x = true) : ck_pf f h x (k + 1) = (f k, h k) := by simp [ck_pf, c, d]
theorem ck_pf_no {f h : Nat → Int32} {x : Int32} {k : Nat} (c : ¬ ((ck_pf f h x k).1 < f k ∧ ck_fit (f k) x = true)) : ck_pf f h x (k + 1) = ck_pf f h x k := by
  show (if _ then _ else _) = _
  rw [if_neg c]
set_option maxHeartbeats 4000000 in
set_option maxRecDepth 100000 in
theorem ct_X1_priceFor (l : Launch) (G : ck_G) (H : Heap) (ad : Nat → Nat) (N : Nat → Prop) (F : Nat → va_E) (hW : ck_W G ad N F H) (i : Nat) (hN : N i) (j k : Nat) (hF : F i = .inr (1, [.ref (ad j), .ref (ad k)])) (hNj : N j) (f : Nat → Int32) (hFj : F j = .inl (G.2.1 0, 10, .inl f)) (hNk : N k) (h : Nat → Int32) (hFk : F k = .inl (G.2.1 0, 10, .inl h)) (a0 : Int32) : Met l yX1_priceFor wsX1_priceFor ({ frames := 1, cells := 0, slots := 0, locals := 23 }) (ck_P G H [.ref (ad i), .int a0]) (vp_Si (fun r => r = (ck_pf f h a0 10).2)) 0 0 (fun _ => False) := by
  refine Met.ofW (cc := cX1_priceFor) (maxL := 5) (ret := (some .int)) (by decide) rfl ?_
  intro p e s m args below meth c s₁ B hml hv
  obtain ⟨rfl, hH, hKK⟩ := hv
  subst hH
  have hx := B.exec
  have hb := B.bytes
  have hr := B.returns
  have hts := atoms_spec (ws := wsX1_priceFor) B.pre
  have hown : s.vm.findClass RX1 = some m.cls := findClass_of_methodNamed B.named
  have hlocks := B.notSynchronized
  have hKK0 := hKK
  have hK := hKK.1.1
  have hinX1 : ∀ w ∈ u_ws RX1 TX1 2, w ∈ wsX1_priceFor := by decide +kernel
  have hl := lv_entry ([.ref (ad i), .int a0]) (n := 5) (Nat.le_of_ble_eq_true rfl)
  rw [lg_entry_eq]
  generalize (lg_sl ([.ref (ad i), .int a0]) ++ List.replicate (5 - (lg_sl ([.ref (ad i), .int a0])).length) Slot.unset).toArray = ls at hl ⊢
  have hl : lv_has ls 5 [(0, .ref (ad i)), (1, .int a0)] := hl
  refine lv_iconst (v := 0) hx hb dX1_priceFor_0 (by decide) ?_
  refine lv_istore_n (lv' := [(2, .int 0), (0, .ref (ad i)), (1, .int a0)]) hx hb dX1_priceFor_1 rfl hl (by decide) rfl (fun ls hl => ?_)
  refine lv_iconst (v := (-1)) hx hb dX1_priceFor_2 (by decide) ?_
  refine lv_istore_n (lv' := [(3, .int (-1)), (2, .int 0), (0, .ref (ad i)), (1, .int a0)]) hx hb dX1_priceFor_3 rfl hl (by decide) rfl (fun ls hl => ?_)
  refine lv_iconst (v := 0) hx hb dX1_priceFor_4 (by decide) ?_
  refine lv_istore (lv' := [(4, .int 0), (3, .int (-1)), (2, .int 0), (0, .ref (ad i)), (1, .int a0)]) hx hb dX1_priceFor_5 hl (by decide) rfl (fun ls hl => ?_)
  refine ck_loop (P := fun ls => W p l e _ s m _ below meth c _ _ _ _ _ (F0 m _ ls _)) 10 (fun k => [(4, .int (nI k)), (3, .int (ck_pf f h a0 k).2), (2, .int (ck_pf f h a0 k).1), (0, .ref (ad i)), (1, .int a0)]) (fun k => True) (lv_sub hl [0, 1, 2, 3, 4] rfl) (trivial) ?_ ?_
  · intro ls hl hI7
    have hl : lv_has ls 5 [(4, .int (nI 10)), (3, .int (ck_pf f h a0 10).2), (2, .int (ck_pf f h a0 10).1), (0, .ref (ad i)), (1, .int a0)] := hl
    refine lv_iload hx hb dX1_priceFor_7 (lv_at hl 0 rfl) ?_
    refine lv_bipush (v := 10) hx hb dX1_priceFor_9 (by decide) ?_
    refine lv_icmp_ge (tgt := 61) hx hb dX1_priceFor_11 (by decide) (fun _ => ?_) (fun c_11 => absurd (Int32.le_refl _) c_11)
    refine lv_iload_n hx hb dX1_priceFor_61 rfl (lv_at hl 1 rfl) ?_
    exact W.iret (v := (ck_pf f h a0 10).2) hx hb hr (fun t ht hW9 => ⟨_, rfl, rfl, ht⟩) (fun _ h => nomatch h) dX1_priceFor_62
  · intro k7 hk7 hI7 ih7 ls hl
    have hl : lv_has ls 5 [(4, .int (nI k7)), (3, .int (ck_pf f h a0 k7).2), (2, .int (ck_pf f h a0 k7).1), (0, .ref (ad i)), (1, .int a0)] := hl
    refine lv_iload hx hb dX1_priceFor_7 (lv_at hl 0 rfl) ?_
    refine lv_bipush (v := 10) hx hb dX1_priceFor_9 (by decide) ?_
    refine lv_icmp_ge (tgt := 61) hx hb dX1_priceFor_11 (by decide) (fun c_11 => absurd c_11 (nI_ge hk7 (by decide))) (fun _ => ?_)
    refine lv_aload_n hx hb dX1_priceFor_14 rfl (lv_at hl 3 rfl) ?_
    refine ck_get (v := .ref (ad j)) hx hb hts hinX1 hown hK hW hN hF rfl 0 (by decide) (hts _ (List.mem_of_getElem? (i := 1) rfl)) rfl rfl dX1_priceFor_15 ?_
    refine lv_iload hx hb dX1_priceFor_18 (lv_at hl 0 rfl) ?_
    refine ck_iald hx hb hK hW hNj hFj k7 (rfl) (by omega) (by decide) dX1_priceFor_20 ?_
    refine lv_iload_n hx hb dX1_priceFor_21 rfl (lv_at hl 2 rfl) ?_
    refine lv_icmp_le (tgt := 55) hx hb dX1_priceFor_22 (by decide) (fun c_22 => ?_) (fun c_22 => ?_)
    · skip
      have e9 := ck_pf_no (f := f) (h := h) (x := a0) (k := k7) (fun z => absurd z.1 (Int32.not_lt.mpr c_22))
      have hl : lv_has ls 5 [(4, .int (nI k7)), (3, .int (ck_pf f h a0 (k7 + 1)).2), (2, .int (ck_pf f h a0 (k7 + 1)).1), (0, .ref (ad i)), (1, .int a0)] := by rw [e9]; exact hl
      refine lv_iinc (v := nI (k7 + 1)) (lv' := [(4, .int (nI (k7 + 1))), (3, .int (ck_pf f h a0 (k7 + 1)).2), (2, .int (ck_pf f h a0 (k7 + 1)).1), (0, .ref (ad i)), (1, .int a0)]) hx hb dX1_priceFor_55 hl (k := 0) rfl (nI_1 k7) (by decide) rfl (fun ls hl => ?_)
      refine lv_goto (tgt := 7) hx hb dX1_priceFor_58 (by decide) ?_
      exact ih7 ls (lv_sub hl [0, 1, 2, 3, 4] rfl) (trivial)
    · skip
      refine lv_aload_n hx hb dX1_priceFor_25 rfl (lv_at hl 3 rfl) ?_
      refine ck_get (v := .ref (ad j)) hx hb hts hinX1 hown hK hW hN hF rfl 0 (by decide) (hts _ (List.mem_of_getElem? (i := 1) rfl)) rfl rfl dX1_priceFor_26 ?_
      refine lv_iload hx hb dX1_priceFor_29 (lv_at hl 0 rfl) ?_
      refine ck_iald hx hb hK hW hNj hFj k7 (rfl) (by omega) (by decide) dX1_priceFor_31 ?_
      refine lv_iload_n hx hb dX1_priceFor_32 rfl (lv_at hl 4 rfl) ?_
      refine ck_cNi (As := [.int (f k7), .int a0]) (rest := []) ⟨hx, hb, hml, hown, hts⟩ hKK (ct_X4_fits l G s.heap ((f k7)) a0) ⟨va_cnB 2 hts gX1_priceFor_X4_fits_n22 rfl rfl rfl hKK.1.2.2.1.2.2 (hts _ (List.mem_of_getElem? (i := 4) rfl)) (by decide +kernel) ⟨Nat.le_of_ble_eq_true rfl, Nat.le_of_ble_eq_true rfl⟩, (hts _ (List.mem_of_getElem? (i := 3) rfl)), trivial⟩ rfl hl rfl (Nat.le_of_ble_eq_true rfl) dX1_priceFor_33 ⟨Nat.le_of_ble_eq_true rfl, Nat.le_of_ble_eq_true rfl⟩ (fun r_33 h_33 => ?_)
      rcases h_33 with ⟨h_33, rfl⟩ | ⟨h_33, rfl⟩
      · skip
        refine lv_if_eq (tgt := 55) hx hb dX1_priceFor_36 (by decide) (fun c_36 => absurd c_36 (by decide)) (fun _ => ?_)
        refine lv_aload_n hx hb dX1_priceFor_39 rfl (lv_at hl 3 rfl) ?_
        refine ck_get (v := .ref (ad j)) hx hb hts hinX1 hown hK hW hN hF rfl 0 (by decide) (hts _ (List.mem_of_getElem? (i := 1) rfl)) rfl rfl dX1_priceFor_40 ?_
        refine lv_iload hx hb dX1_priceFor_43 (lv_at hl 0 rfl) ?_
        refine ck_iald hx hb hK hW hNj hFj k7 (rfl) (by omega) (by decide) dX1_priceFor_45 ?_
        refine lv_istore_n (lv' := [(2, .int (f k7)), (4, .int (nI k7)), (3, .int (ck_pf f h a0 k7).2), (0, .ref (ad i)), (1, .int a0)]) hx hb dX1_priceFor_46 rfl hl (by decide) rfl (fun ls hl => ?_)
        refine lv_aload_n hx hb dX1_priceFor_47 rfl (lv_at hl 3 rfl) ?_
        refine ck_get (v := .ref (ad k)) hx hb hts hinX1 hown hK hW hN hF rfl 1 (by decide) (hts _ (List.mem_of_getElem? (i := 2) rfl)) rfl rfl dX1_priceFor_48 ?_
        refine lv_iload hx hb dX1_priceFor_51 (lv_at hl 1 rfl) ?_
        refine ck_iald hx hb hK hW hNk hFk k7 (rfl) (by omega) (by decide) dX1_priceFor_53 ?_
        refine lv_istore_n (lv' := [(3, .int (h k7)), (2, .int (f k7)), (4, .int (nI k7)), (0, .ref (ad i)), (1, .int a0)]) hx hb dX1_priceFor_54 rfl hl (by decide) rfl (fun ls hl => ?_)
        have e9 := ck_pf_yes (h := h) (Int32.not_le.mp c_22) h_33
        have hl : lv_has ls 5 [(3, .int (ck_pf f h a0 (k7 + 1)).2), (2, .int (ck_pf f h a0 (k7 + 1)).1), (4, .int (nI k7)), (0, .ref (ad i)), (1, .int a0)] := by rw [e9]; exact hl
        refine lv_iinc (v := nI (k7 + 1)) (lv' := [(4, .int (nI (k7 + 1))), (3, .int (ck_pf f h a0 (k7 + 1)).2), (2, .int (ck_pf f h a0 (k7 + 1)).1), (0, .ref (ad i)), (1, .int a0)]) hx hb dX1_priceFor_55 hl (k := 2) rfl (nI_1 k7) (by decide) rfl (fun ls hl => ?_)
        refine lv_goto (tgt := 7) hx hb dX1_priceFor_58 (by decide) ?_
        exact ih7 ls (lv_sub hl [0, 1, 2, 3, 4] rfl) (trivial)
      · skip
        refine lv_if_eq (tgt := 55) hx hb dX1_priceFor_36 (by decide) (fun _ => ?_) (fun c_36 => absurd (by decide) c_36)
        have e9 := ck_pf_no (f := f) (h := h) (x := a0) (k := k7) (fun z => h_33 z.2)
        have hl : lv_has ls 5 [(4, .int (nI k7)), (3, .int (ck_pf f h a0 (k7 + 1)).2), (2, .int (ck_pf f h a0 (k7 + 1)).1), (0, .ref (ad i)), (1, .int a0)] := by rw [e9]; exact hl
        refine lv_iinc (v := nI (k7 + 1)) (lv' := [(4, .int (nI (k7 + 1))), (3, .int (ck_pf f h a0 (k7 + 1)).2), (2, .int (ck_pf f h a0 (k7 + 1)).1), (0, .ref (ad i)), (1, .int a0)]) hx hb dX1_priceFor_55 hl (k := 0) rfl (nI_1 k7) (by decide) rfl (fun ls hl => ?_)
        refine lv_goto (tgt := 7) hx hb dX1_priceFor_58 (by decide) ?_
        exact ih7 ls (lv_sub hl [0, 1, 2, 3, 4] rfl) (trivial)
