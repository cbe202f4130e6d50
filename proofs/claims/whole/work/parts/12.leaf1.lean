set_option maxHeartbeats 4000000 in
set_option maxRecDepth 100000 in
theorem ct_X4_within (l : Launch) (G : ck_G) (H : Heap) (a0 a1 a2 : Int32) : Met l yX4_within wsX4_within ({ frames := 0, cells := 0, slots := 0, locals := 0 }) (ck_P G H [.int a0, .int a1, .int a2]) (vp_Si (fun r => ck_b (a1 ≤ a0 ∧ a0 ≤ a2) r)) 0 0 (fun _ => False) := by
  refine Met.ofW (cc := cX4_within) (maxL := 3) (ret := (some .boolean)) (by decide) rfl ?_
  intro p e s m args below meth c s₁ B hml hv
  obtain ⟨rfl, hH, hKK⟩ := hv
  subst hH
  have hx := B.exec
  have hb := B.bytes
  have hr := B.returns
  have hts := atoms_spec (ws := wsX4_within) B.pre
  have hown : s.vm.findClass RX4 = some m.cls := findClass_of_methodNamed B.named
  have hlocks := B.notSynchronized
  have hKK0 := hKK
  have hK := hKK.1.1
  have hl := lv_entry ([.int a0, .int a1, .int a2]) (n := 3) (Nat.le_of_ble_eq_true rfl)
  rw [lg_entry_eq]
  generalize (lg_sl ([.int a0, .int a1, .int a2]) ++ List.replicate (3 - (lg_sl ([.int a0, .int a1, .int a2])).length) Slot.unset).toArray = ls at hl ⊢
  have hl : lv_has ls 3 [(0, .int a0), (1, .int a1), (2, .int a2)] := hl
  refine lv_iload_n hx hb dX4_within_0 rfl (lv_at hl 0 rfl) ?_
  refine lv_iload_n hx hb dX4_within_1 rfl (lv_at hl 1 rfl) ?_
  refine lv_icmp_lt (tgt := 14) hx hb dX4_within_2 (by decide) (fun c_2 => ?_) (fun c_2 => ?_)
  · skip
    refine lv_iconst (v := 0) hx hb dX4_within_14 (by decide) ?_
    exact W.zret (v := 0) hx hb hr rfl (fun t ht hW9 => ⟨_, rfl, Or.inr ⟨fun h => absurd h.1 (Int32.not_le.mpr c_2), rfl⟩, ht⟩) (fun _ h => nomatch h) dX4_within_15
  · skip
    refine lv_iload_n hx hb dX4_within_5 rfl (lv_at hl 0 rfl) ?_
    refine lv_iload_n hx hb dX4_within_6 rfl (lv_at hl 2 rfl) ?_
    refine lv_icmp_gt (tgt := 14) hx hb dX4_within_7 (by decide) (fun c_7 => ?_) (fun c_7 => ?_)
    · skip
      refine lv_iconst (v := 0) hx hb dX4_within_14 (by decide) ?_
      exact W.zret (v := 0) hx hb hr rfl (fun t ht hW9 => ⟨_, rfl, Or.inr ⟨fun h => absurd h.2 (Int32.not_le.mpr c_7), rfl⟩, ht⟩) (fun _ h => nomatch h) dX4_within_15
    · skip
      refine lv_iconst (v := 1) hx hb dX4_within_10 (by decide) ?_
      refine lv_goto (tgt := 15) hx hb dX4_within_11 (by decide) ?_
      exact W.zret (v := 1) hx hb hr rfl (fun t ht hW9 => ⟨_, rfl, Or.inl ⟨⟨Int32.not_lt.mp c_2, Int32.not_lt.mp c_7⟩, rfl⟩, ht⟩) (fun _ h => nomatch h) dX4_within_15
set_option maxHeartbeats 4000000 in
set_option maxRecDepth 100000 in
theorem ct_X5_in (l : Launch) (G : ck_G) (H : Heap) (a0 a1 a2 : Int32) : Met l yX5_in wsX5_in ({ frames := 0, cells := 0, slots := 0, locals := 0 }) (ck_P G H [.int a0, .int a1, .int a2]) (vp_Si (fun r => ck_b (a1 ≤ a0 ∧ a0 ≤ a2) r)) 0 0 (fun _ => False) := by
  refine Met.ofW (cc := cX5_in) (maxL := 3) (ret := (some .boolean)) (by decide) rfl ?_
  intro p e s m args below meth c s₁ B hml hv
  obtain ⟨rfl, hH, hKK⟩ := hv
  subst hH
  have hx := B.exec
  have hb := B.bytes
  have hr := B.returns
  have hts := atoms_spec (ws := wsX5_in) B.pre
  have hown : s.vm.findClass RX5 = some m.cls := findClass_of_methodNamed B.named
  have hlocks := B.notSynchronized
  have hKK0 := hKK
  have hK := hKK.1.1
  have hl := lv_entry ([.int a0, .int a1, .int a2]) (n := 3) (Nat.le_of_ble_eq_true rfl)
  rw [lg_entry_eq]
  generalize (lg_sl ([.int a0, .int a1, .int a2]) ++ List.replicate (3 - (lg_sl ([.int a0, .int a1, .int a2])).length) Slot.unset).toArray = ls at hl ⊢
  have hl : lv_has ls 3 [(0, .int a0), (1, .int a1), (2, .int a2)] := hl
  refine lv_iload_n hx hb dX5_in_0 rfl (lv_at hl 0 rfl) ?_
  refine lv_iload_n hx hb dX5_in_1 rfl (lv_at hl 1 rfl) ?_
  refine lv_icmp_lt (tgt := 14) hx hb dX5_in_2 (by decide) (fun c_2 => ?_) (fun c_2 => ?_)
  · skip
    refine lv_iconst (v := 0) hx hb dX5_in_14 (by decide) ?_
    exact W.zret (v := 0) hx hb hr rfl (fun t ht hW9 => ⟨_, rfl, Or.inr ⟨fun h => absurd h.1 (Int32.not_le.mpr c_2), rfl⟩, ht⟩) (fun _ h => nomatch h) dX5_in_15
  · skip
    refine lv_iload_n hx hb dX5_in_5 rfl (lv_at hl 0 rfl) ?_
    refine lv_iload_n hx hb dX5_in_6 rfl (lv_at hl 2 rfl) ?_
    refine lv_icmp_gt (tgt := 14) hx hb dX5_in_7 (by decide) (fun c_7 => ?_) (fun c_7 => ?_)
    · skip
      refine lv_iconst (v := 0) hx hb dX5_in_14 (by decide) ?_
      exact W.zret (v := 0) hx hb hr rfl (fun t ht hW9 => ⟨_, rfl, Or.inr ⟨fun h => absurd h.2 (Int32.not_le.mpr c_7), rfl⟩, ht⟩) (fun _ h => nomatch h) dX5_in_15
    · skip
      refine lv_iconst (v := 1) hx hb dX5_in_10 (by decide) ?_
      refine lv_goto (tgt := 15) hx hb dX5_in_11 (by decide) ?_
      exact W.zret (v := 1) hx hb hr rfl (fun t ht hW9 => ⟨_, rfl, Or.inl ⟨⟨Int32.not_lt.mp c_2, Int32.not_lt.mp c_7⟩, rfl⟩, ht⟩) (fun _ h => nomatch h) dX5_in_15
def ck_isN (x : Int32) : Prop := 1000 ≤ x ∧ x ≤ 99999999
def ck_isP (x : Int32) : Prop := 1 ≤ x ∧ x ≤ 99999
def ck_isD (x : Int32) : Prop := 0 ≤ x ∧ x ≤ 999
set_option maxHeartbeats 4000000 in
set_option maxRecDepth 100000 in
theorem ct_X4_isNumber (l : Launch) (G : ck_G) (H : Heap) (a0 : Int32) : Met l yX4_isNumber wsX4_isNumber ({ frames := 1, cells := 0, slots := 0, locals := 22 }) (ck_P G H [.int a0]) (vp_Si (fun r => ck_b (ck_isN a0) r)) 0 0 (fun _ => False) := by
  refine Met.ofW (cc := cX4_isNumber) (maxL := 1) (ret := (some .boolean)) (by decide) rfl ?_
  intro p e s m args below meth c s₁ B hml hv
  obtain ⟨rfl, hH, hKK⟩ := hv
  subst hH
  have hx := B.exec
  have hb := B.bytes
  have hr := B.returns
  have hts := atoms_spec (ws := wsX4_isNumber) B.pre
  have hown : s.vm.findClass RX4 = some m.cls := findClass_of_methodNamed B.named
  have hlocks := B.notSynchronized
  have hKK0 := hKK
  have hK := hKK.1.1
  have hl := lv_entry ([.int a0]) (n := 1) (Nat.le_of_ble_eq_true rfl)
  rw [lg_entry_eq]
  generalize (lg_sl ([.int a0]) ++ List.replicate (1 - (lg_sl ([.int a0])).length) Slot.unset).toArray = ls at hl ⊢
  have hl : lv_has ls 1 [(0, .int a0)] := hl
  refine lv_iload_n hx hb dX4_isNumber_0 rfl (lv_at hl 0 rfl) ?_
  refine lv_sipush (v := 1000) hx hb dX4_isNumber_1 (by decide) ?_
  refine lv_ldc (v := 99999999) hx hb hown (hts _ (List.mem_of_getElem? (i := 1) rfl)) dX4_isNumber_4 ?_
  refine ck_cSi (As := [.int a0, .int 1000, .int 99999999]) (rest := []) ⟨hx, hb, hml, hown, hts⟩ hKK (ct_X4_within l G s.heap a0 1000 99999999) (va_cwS 3 hts gX4_isNumber_X4_within rfl rfl rfl (by decide +kernel) ⟨Nat.le_of_ble_eq_true rfl, Nat.le_of_ble_eq_true rfl⟩) rfl hl rfl (Nat.le_of_ble_eq_true rfl) dX4_isNumber_6 ⟨Nat.le_of_ble_eq_true rfl, Nat.le_of_ble_eq_true rfl⟩ (fun r_6 h_6 => ?_)
  rcases h_6 with ⟨h_6, rfl⟩ | ⟨h_6, rfl⟩
  · skip
    exact W.zret (v := 1) hx hb hr rfl (fun t ht hW9 => ⟨_, rfl, Or.inl ⟨h_6, rfl⟩, ht⟩) (fun _ h => nomatch h) dX4_isNumber_9
  · skip
    exact W.zret (v := 0) hx hb hr rfl (fun t ht hW9 => ⟨_, rfl, Or.inr ⟨h_6, rfl⟩, ht⟩) (fun _ h => nomatch h) dX4_isNumber_9
set_option maxHeartbeats 4000000 in
set_option maxRecDepth 100000 in
theorem ct_X4_isPrefix (l : Launch) (G : ck_G) (H : Heap) (a0 : Int32) : Met l yX4_isPrefix wsX4_isPrefix ({ frames := 1, cells := 0, slots := 0, locals := 22 }) (ck_P G H [.int a0]) (vp_Si (fun r => ck_b (ck_isP a0) r)) 0 0 (fun _ => False) := by
  refine Met.ofW (cc := cX4_isPrefix) (maxL := 1) (ret := (some .boolean)) (by decide) rfl ?_
  intro p e s m args below meth c s₁ B hml hv
  obtain ⟨rfl, hH, hKK⟩ := hv
  subst hH
  have hx := B.exec
  have hb := B.bytes
  have hr := B.returns
  have hts := atoms_spec (ws := wsX4_isPrefix) B.pre
  have hown : s.vm.findClass RX4 = some m.cls := findClass_of_methodNamed B.named
  have hlocks := B.notSynchronized
  have hKK0 := hKK
  have hK := hKK.1.1
  have hl := lv_entry ([.int a0]) (n := 1) (Nat.le_of_ble_eq_true rfl)
  rw [lg_entry_eq]
  generalize (lg_sl ([.int a0]) ++ List.replicate (1 - (lg_sl ([.int a0])).length) Slot.unset).toArray = ls at hl ⊢
  have hl : lv_has ls 1 [(0, .int a0)] := hl
  refine lv_iload_n hx hb dX4_isPrefix_0 rfl (lv_at hl 0 rfl) ?_
  refine lv_iconst (v := 1) hx hb dX4_isPrefix_1 (by decide) ?_
  refine lv_ldc (v := 99999) hx hb hown (hts _ (List.mem_of_getElem? (i := 1) rfl)) dX4_isPrefix_2 ?_
  refine ck_cSi (As := [.int a0, .int 1, .int 99999]) (rest := []) ⟨hx, hb, hml, hown, hts⟩ hKK (ct_X4_within l G s.heap a0 1 99999) (va_cwS 3 hts gX4_isPrefix_X4_within rfl rfl rfl (by decide +kernel) ⟨Nat.le_of_ble_eq_true rfl, Nat.le_of_ble_eq_true rfl⟩) rfl hl rfl (Nat.le_of_ble_eq_true rfl) dX4_isPrefix_4 ⟨Nat.le_of_ble_eq_true rfl, Nat.le_of_ble_eq_true rfl⟩ (fun r_4 h_4 => ?_)
  rcases h_4 with ⟨h_4, rfl⟩ | ⟨h_4, rfl⟩
  · skip
    exact W.zret (v := 1) hx hb hr rfl (fun t ht hW9 => ⟨_, rfl, Or.inl ⟨h_4, rfl⟩, ht⟩) (fun _ h => nomatch h) dX4_isPrefix_7
  · skip
    exact W.zret (v := 0) hx hb hr rfl (fun t ht hW9 => ⟨_, rfl, Or.inr ⟨h_4, rfl⟩, ht⟩) (fun _ h => nomatch h) dX4_isPrefix_7
set_option maxHeartbeats 4000000 in
set_option maxRecDepth 100000 in
theorem ct_X4_isDay (l : Launch) (G : ck_G) (H : Heap) (a0 : Int32) : Met l yX4_isDay wsX4_isDay ({ frames := 1, cells := 0, slots := 0, locals := 22 }) (ck_P G H [.int a0]) (vp_Si (fun r => ck_b (ck_isD a0) r)) 0 0 (fun _ => False) := by
  refine Met.ofW (cc := cX4_isDay) (maxL := 1) (ret := (some .boolean)) (by decide) rfl ?_
  intro p e s m args below meth c s₁ B hml hv
  obtain ⟨rfl, hH, hKK⟩ := hv
  subst hH
  have hx := B.exec
  have hb := B.bytes
  have hr := B.returns
  have hts := atoms_spec (ws := wsX4_isDay) B.pre
  have hown : s.vm.findClass RX4 = some m.cls := findClass_of_methodNamed B.named
  have hlocks := B.notSynchronized
  have hKK0 := hKK
  have hK := hKK.1.1
  have hl := lv_entry ([.int a0]) (n := 1) (Nat.le_of_ble_eq_true rfl)
  rw [lg_entry_eq]
  generalize (lg_sl ([.int a0]) ++ List.replicate (1 - (lg_sl ([.int a0])).length) Slot.unset).toArray = ls at hl ⊢
  have hl : lv_has ls 1 [(0, .int a0)] := hl
  refine lv_iload_n hx hb dX4_isDay_0 rfl (lv_at hl 0 rfl) ?_
  refine lv_iconst (v := 0) hx hb dX4_isDay_1 (by decide) ?_
  refine lv_sipush (v := 999) hx hb dX4_isDay_2 (by decide) ?_
  refine ck_cSi (As := [.int a0, .int 0, .int 999]) (rest := []) ⟨hx, hb, hml, hown, hts⟩ hKK (ct_X4_within l G s.heap a0 0 999) (va_cwS 3 hts gX4_isDay_X4_within rfl rfl rfl (by decide +kernel) ⟨Nat.le_of_ble_eq_true rfl, Nat.le_of_ble_eq_true rfl⟩) rfl hl rfl (Nat.le_of_ble_eq_true rfl) dX4_isDay_5 ⟨Nat.le_of_ble_eq_true rfl, Nat.le_of_ble_eq_true rfl⟩ (fun r_5 h_5 => ?_)
  rcases h_5 with ⟨h_5, rfl⟩ | ⟨h_5, rfl⟩
  · skip
    exact W.zret (v := 1) hx hb hr rfl (fun t ht hW9 => ⟨_, rfl, Or.inl ⟨h_5, rfl⟩, ht⟩) (fun _ h => nomatch h) dX4_isDay_8
  · skip
    exact W.zret (v := 0) hx hb hr rfl (fun t ht hW9 => ⟨_, rfl, Or.inr ⟨h_5, rfl⟩, ht⟩) (fun _ h => nomatch h) dX4_isDay_8
set_option maxHeartbeats 4000000 in
set_option maxRecDepth 100000 in
theorem ct_X5_isNumber (l : Launch) (G : ck_G) (H : Heap) (a0 : Int32) : Met l yX5_isNumber wsX5_isNumber ({ frames := 1, cells := 0, slots := 0, locals := 22 }) (ck_P G H [.int a0]) (vp_Si (fun r => ck_b (ck_isN a0) r)) 0 0 (fun _ => False) := by
  refine Met.ofW (cc := cX5_isNumber) (maxL := 1) (ret := (some .boolean)) (by decide) rfl ?_
  intro p e s m args below meth c s₁ B hml hv
  obtain ⟨rfl, hH, hKK⟩ := hv
  subst hH
  have hx := B.exec
  have hb := B.bytes
  have hr := B.returns
  have hts := atoms_spec (ws := wsX5_isNumber) B.pre
  have hown : s.vm.findClass RX5 = some m.cls := findClass_of_methodNamed B.named
  have hlocks := B.notSynchronized
  have hKK0 := hKK
  have hK := hKK.1.1
  have hl := lv_entry ([.int a0]) (n := 1) (Nat.le_of_ble_eq_true rfl)
  rw [lg_entry_eq]
  generalize (lg_sl ([.int a0]) ++ List.replicate (1 - (lg_sl ([.int a0])).length) Slot.unset).toArray = ls at hl ⊢
  have hl : lv_has ls 1 [(0, .int a0)] := hl
  refine lv_iload_n hx hb dX5_isNumber_0 rfl (lv_at hl 0 rfl) ?_
  refine lv_sipush (v := 1000) hx hb dX5_isNumber_1 (by decide) ?_
  refine lv_ldc (v := 99999999) hx hb hown (hts _ (List.mem_of_getElem? (i := 1) rfl)) dX5_isNumber_4 ?_
  refine ck_cSi (As := [.int a0, .int 1000, .int 99999999]) (rest := []) ⟨hx, hb, hml, hown, hts⟩ hKK (ct_X5_in l G s.heap a0 1000 99999999) (va_cwS 3 hts gX5_isNumber_X5_in rfl rfl rfl (by decide +kernel) ⟨Nat.le_of_ble_eq_true rfl, Nat.le_of_ble_eq_true rfl⟩) rfl hl rfl (Nat.le_of_ble_eq_true rfl) dX5_isNumber_6 ⟨Nat.le_of_ble_eq_true rfl, Nat.le_of_ble_eq_true rfl⟩ (fun r_6 h_6 => ?_)
  rcases h_6 with ⟨h_6, rfl⟩ | ⟨h_6, rfl⟩
  · skip
    exact W.zret (v := 1) hx hb hr rfl (fun t ht hW9 => ⟨_, rfl, Or.inl ⟨h_6, rfl⟩, ht⟩) (fun _ h => nomatch h) dX5_isNumber_9
  · skip
    exact W.zret (v := 0) hx hb hr rfl (fun t ht hW9 => ⟨_, rfl, Or.inr ⟨h_6, rfl⟩, ht⟩) (fun _ h => nomatch h) dX5_isNumber_9
set_option maxHeartbeats 4000000 in
set_option maxRecDepth 100000 in
theorem ct_X5_isPrefix (l : Launch) (G : ck_G) (H : Heap) (a0 : Int32) : Met l yX5_isPrefix wsX5_isPrefix ({ frames := 1, cells := 0, slots := 0, locals := 22 }) (ck_P G H [.int a0]) (vp_Si (fun r => ck_b (ck_isP a0) r)) 0 0 (fun _ => False) := by
  refine Met.ofW (cc := cX5_isPrefix) (maxL := 1) (ret := (some .boolean)) (by decide) rfl ?_
  intro p e s m args below meth c s₁ B hml hv
  obtain ⟨rfl, hH, hKK⟩ := hv
  subst hH
  have hx := B.exec
  have hb := B.bytes
  have hr := B.returns
  have hts := atoms_spec (ws := wsX5_isPrefix) B.pre
  have hown : s.vm.findClass RX5 = some m.cls := findClass_of_methodNamed B.named
  have hlocks := B.notSynchronized
  have hKK0 := hKK
  have hK := hKK.1.1
  have hl := lv_entry ([.int a0]) (n := 1) (Nat.le_of_ble_eq_true rfl)
  rw [lg_entry_eq]
  generalize (lg_sl ([.int a0]) ++ List.replicate (1 - (lg_sl ([.int a0])).length) Slot.unset).toArray = ls at hl ⊢
  have hl : lv_has ls 1 [(0, .int a0)] := hl
  refine lv_iload_n hx hb dX5_isPrefix_0 rfl (lv_at hl 0 rfl) ?_
  refine lv_iconst (v := 1) hx hb dX5_isPrefix_1 (by decide) ?_
  refine lv_ldc (v := 99999) hx hb hown (hts _ (List.mem_of_getElem? (i := 1) rfl)) dX5_isPrefix_2 ?_
  refine ck_cSi (As := [.int a0, .int 1, .int 99999]) (rest := []) ⟨hx, hb, hml, hown, hts⟩ hKK (ct_X5_in l G s.heap a0 1 99999) (va_cwS 3 hts gX5_isPrefix_X5_in rfl rfl rfl (by decide +kernel) ⟨Nat.le_of_ble_eq_true rfl, Nat.le_of_ble_eq_true rfl⟩) rfl hl rfl (Nat.le_of_ble_eq_true rfl) dX5_isPrefix_4 ⟨Nat.le_of_ble_eq_true rfl, Nat.le_of_ble_eq_true rfl⟩ (fun r_4 h_4 => ?_)
  rcases h_4 with ⟨h_4, rfl⟩ | ⟨h_4, rfl⟩
  · skip
    exact W.zret (v := 1) hx hb hr rfl (fun t ht hW9 => ⟨_, rfl, Or.inl ⟨h_4, rfl⟩, ht⟩) (fun _ h => nomatch h) dX5_isPrefix_7
  · skip
    exact W.zret (v := 0) hx hb hr rfl (fun t ht hW9 => ⟨_, rfl, Or.inr ⟨h_4, rfl⟩, ht⟩) (fun _ h => nomatch h) dX5_isPrefix_7
/-- the digits of a number that a prefix is held against -/
def ck_drop : Nat → Int32 → Int32 → Int32
  | 0, _, h => h
  | k + 1, q, h => if q < h then ck_drop k q (h / 10) else h
def ck_fit (q x : Int32) : Bool := decide (ck_drop 8 q x = q)
def ck_dv : Nat → Int32 → Int32
  | 0, x => x
  | k + 1, x => ck_dv k x / 10
theorem ck_drop_stop {q h : Int32} (c : ¬ q < h) : ∀ n, ck_drop n q h = h
  | 0 => rfl
  | n + 1 => by simp [ck_drop, c]
theorem ck_drop_go {q h x : Int32} {k : Nat} (hk : k < 8) (c : q < h) (hI : ck_drop (8 - k) q h = x) : ck_drop (8 - (k + 1)) q (h / 10) = x := by
  rw [show 8 - k = (8 - (k + 1)) + 1 by omega] at hI
  rw [← hI]; simp [ck_drop, c]
set_option maxHeartbeats 4000000 in
set_option maxRecDepth 100000 in
theorem ct_X4_fits (l : Launch) (G : ck_G) (H : Heap) (a0 a1 : Int32) : Met l yX4_fits wsX4_fits ({ frames := 0, cells := 0, slots := 0, locals := 0 }) (ck_P G H [.int a0, .int a1]) (vp_Si (fun r => ck_b (ck_fit a0 a1 = true) r)) 0 0 (fun _ => False) := by
  refine Met.ofW (cc := cX4_fits) (maxL := 4) (ret := (some .boolean)) (by decide) rfl ?_
  intro p e s m args below meth c s₁ B hml hv
  obtain ⟨rfl, hH, hKK⟩ := hv
  subst hH
  have hx := B.exec
  have hb := B.bytes
  have hr := B.returns
  have hts := atoms_spec (ws := wsX4_fits) B.pre
  have hown : s.vm.findClass RX4 = some m.cls := findClass_of_methodNamed B.named
  have hlocks := B.notSynchronized
  have hKK0 := hKK
  have hK := hKK.1.1
  have hl := lv_entry ([.int a0, .int a1]) (n := 4) (Nat.le_of_ble_eq_true rfl)
  rw [lg_entry_eq]
  generalize (lg_sl ([.int a0, .int a1]) ++ List.replicate (4 - (lg_sl ([.int a0, .int a1])).length) Slot.unset).toArray = ls at hl ⊢
  have hl : lv_has ls 4 [(0, .int a0), (1, .int a1)] := hl
  refine lv_iload_n hx hb dX4_fits_0 rfl (lv_at hl 1 rfl) ?_
  refine lv_istore_n (lv' := [(2, .int a1), (0, .int a0), (1, .int a1)]) hx hb dX4_fits_1 rfl hl (by decide) rfl (fun ls hl => ?_)
  refine lv_iconst (v := 0) hx hb dX4_fits_2 (by decide) ?_
  refine lv_istore_n (lv' := [(3, .int 0), (2, .int a1), (0, .int a0), (1, .int a1)]) hx hb dX4_fits_3 rfl hl (by decide) rfl (fun ls hl => ?_)
  refine ck_loop (P := fun ls => W p l e _ s m _ below meth c _ _ _ _ _ (F0 m _ ls _)) 8 (fun k => [(3, .int (nI k)), (2, .int (ck_dv k a1)), (0, .int a0), (1, .int a1)]) (fun k => ck_drop (8 - k) a0 (ck_dv k a1) = ck_drop 8 a0 a1) (lv_sub hl [0, 1, 2, 3] rfl) (rfl) ?_ ?_
  · intro ls hl hI4
    have hl : lv_has ls 4 [(3, .int (nI 8)), (2, .int (ck_dv 8 a1)), (0, .int a0), (1, .int a1)] := hl
    refine lv_iload_n hx hb dX4_fits_4 rfl (lv_at hl 0 rfl) ?_
    refine lv_bipush (v := 8) hx hb dX4_fits_5 (by decide) ?_
    refine lv_icmp_ge (tgt := 26) hx hb dX4_fits_7 (by decide) (fun _ => ?_) (fun c_7 => absurd (Int32.le_refl _) c_7)
    have hE : ck_drop 8 a0 a1 = ck_dv 8 a1 := hI4.symm
    refine lv_iload_n hx hb dX4_fits_26 rfl (lv_at hl 1 rfl) ?_
    refine lv_iload_n hx hb dX4_fits_27 rfl (lv_at hl 2 rfl) ?_
    refine lv_icmp_ne (tgt := 35) hx hb dX4_fits_28 (by decide) (fun c_28 => ?_) (fun c_28 => ?_)
    · skip
      refine lv_iconst (v := 0) hx hb dX4_fits_35 (by decide) ?_
      exact W.zret (v := 0) hx hb hr rfl (fun t ht hW9 => ⟨_, rfl, Or.inr ⟨fun h => c_28 (hE.symm.trans (of_decide_eq_true h)), rfl⟩, ht⟩) (fun _ h => nomatch h) dX4_fits_36
    · skip
      refine lv_iconst (v := 1) hx hb dX4_fits_31 (by decide) ?_
      refine lv_goto (tgt := 36) hx hb dX4_fits_32 (by decide) ?_
      exact W.zret (v := 1) hx hb hr rfl (fun t ht hW9 => ⟨_, rfl, Or.inl ⟨decide_eq_true (hE.trans c_28), rfl⟩, ht⟩) (fun _ h => nomatch h) dX4_fits_36
  · intro k4 hk4 hI4 ih4 ls hl
    have hl : lv_has ls 4 [(3, .int (nI k4)), (2, .int (ck_dv k4 a1)), (0, .int a0), (1, .int a1)] := hl
    refine lv_iload_n hx hb dX4_fits_4 rfl (lv_at hl 0 rfl) ?_
    refine lv_bipush (v := 8) hx hb dX4_fits_5 (by decide) ?_
    refine lv_icmp_ge (tgt := 26) hx hb dX4_fits_7 (by decide) (fun c_7 => absurd c_7 (nI_ge hk4 (by decide))) (fun _ => ?_)
    refine lv_iload_n hx hb dX4_fits_10 rfl (lv_at hl 1 rfl) ?_
    refine lv_iload_n hx hb dX4_fits_11 rfl (lv_at hl 2 rfl) ?_
    refine lv_icmp_le (tgt := 26) hx hb dX4_fits_12 (by decide) (fun c_12 => ?_) (fun c_12 => ?_)
    · skip
      have hE : ck_drop 8 a0 a1 = ck_dv k4 a1 := hI4.symm.trans (ck_drop_stop (Int32.not_lt.mpr c_12) _)
      refine lv_iload_n hx hb dX4_fits_26 rfl (lv_at hl 1 rfl) ?_
      refine lv_iload_n hx hb dX4_fits_27 rfl (lv_at hl 2 rfl) ?_
      refine lv_icmp_ne (tgt := 35) hx hb dX4_fits_28 (by decide) (fun c_28 => ?_) (fun c_28 => ?_)
      · skip
        refine lv_iconst (v := 0) hx hb dX4_fits_35 (by decide) ?_
        exact W.zret (v := 0) hx hb hr rfl (fun t ht hW9 => ⟨_, rfl, Or.inr ⟨fun h => c_28 (hE.symm.trans (of_decide_eq_true h)), rfl⟩, ht⟩) (fun _ h => nomatch h) dX4_fits_36
      · skip
        refine lv_iconst (v := 1) hx hb dX4_fits_31 (by decide) ?_
        refine lv_goto (tgt := 36) hx hb dX4_fits_32 (by decide) ?_
        exact W.zret (v := 1) hx hb hr rfl (fun t ht hW9 => ⟨_, rfl, Or.inl ⟨decide_eq_true (hE.trans c_28), rfl⟩, ht⟩) (fun _ h => nomatch h) dX4_fits_36
    · skip
      refine lv_iload_n hx hb dX4_fits_15 rfl (lv_at hl 1 rfl) ?_
      refine lv_bipush (v := 10) hx hb dX4_fits_16 (by decide) ?_
      refine lv_idiv hx hb dX4_fits_18 (by decide) ?_
      refine lv_istore_n (lv' := [(2, .int (((ck_dv k4 a1)) / 10)), (3, .int (nI k4)), (0, .int a0), (1, .int a1)]) hx hb dX4_fits_19 rfl hl (by decide) rfl (fun ls hl => ?_)
      refine lv_iinc (v := nI (k4 + 1)) (lv' := [(3, .int (nI (k4 + 1))), (2, .int (((ck_dv k4 a1)) / 10)), (0, .int a0), (1, .int a1)]) hx hb dX4_fits_20 hl (k := 1) rfl (nI_1 k4) (by decide) rfl (fun ls hl => ?_)
      refine lv_goto (tgt := 4) hx hb dX4_fits_23 (by decide) ?_
      exact ih4 ls (lv_sub hl [0, 1, 2, 3] rfl) (ck_drop_go hk4 (Int32.not_le.mp c_12) hI4)
def ck_up (a u : Int32) : Int32 := if u < 1 then 0 else (a + u - 1) / u
set_option maxHeartbeats 4000000 in
set_option maxRecDepth 100000 in
theorem ct_X2_quotientUp (l : Launch) (G : ck_G) (H : Heap) (a0 a1 : Int32) : Met l yX2_quotientUp wsX2_quotientUp ({ frames := 0, cells := 0, slots := 0, locals := 0 }) (ck_P G H [.int a0, .int a1]) (vp_Si (fun r => r = ck_up a0 a1)) 0 0 (fun _ => False) := by
  refine Met.ofW (cc := cX2_quotientUp) (maxL := 2) (ret := (some .int)) (by decide) rfl ?_
  intro p e s m args below meth c s₁ B hml hv
  obtain ⟨rfl, hH, hKK⟩ := hv
  subst hH
  have hx := B.exec
  have hb := B.bytes
  have hr := B.returns
  have hts := atoms_spec (ws := wsX2_quotientUp) B.pre
  have hown : s.vm.findClass RX2 = some m.cls := findClass_of_methodNamed B.named
  have hlocks := B.notSynchronized
  have hKK0 := hKK
  have hK := hKK.1.1
  have hl := lv_entry ([.int a0, .int a1]) (n := 2) (Nat.le_of_ble_eq_true rfl)
  rw [lg_entry_eq]
  generalize (lg_sl ([.int a0, .int a1]) ++ List.replicate (2 - (lg_sl ([.int a0, .int a1])).length) Slot.unset).toArray = ls at hl ⊢
  have hl : lv_has ls 2 [(0, .int a0), (1, .int a1)] := hl
  refine lv_iload_n hx hb dX2_quotientUp_0 rfl (lv_at hl 1 rfl) ?_
  refine lv_iconst (v := 1) hx hb dX2_quotientUp_1 (by decide) ?_
  refine lv_icmp_ge (tgt := 9) hx hb dX2_quotientUp_2 (by decide) (fun c_2 => ?_) (fun c_2 => ?_)
  · skip
    refine lv_iload_n hx hb dX2_quotientUp_9 rfl (lv_at hl 0 rfl) ?_
    refine lv_iload_n hx hb dX2_quotientUp_10 rfl (lv_at hl 1 rfl) ?_
    refine lv_iadd hx hb dX2_quotientUp_11 ?_
    refine lv_iconst (v := 1) hx hb dX2_quotientUp_12 (by decide) ?_
    refine lv_isub hx hb dX2_quotientUp_13 ?_
    refine lv_iload_n hx hb dX2_quotientUp_14 rfl (lv_at hl 1 rfl) ?_
    refine lv_idiv hx hb dX2_quotientUp_15 (fun h => absurd c_2 (by rw [h]; decide)) ?_
    exact W.iret (v := (((((a0 + a1)) - 1)) / a1)) hx hb hr (fun t ht hW9 => ⟨_, rfl, (by simp [ck_up, Int32.not_lt.mpr c_2]), ht⟩) (fun _ h => nomatch h) dX2_quotientUp_16
  · skip
    refine lv_iconst (v := 0) hx hb dX2_quotientUp_5 (by decide) ?_
    refine lv_goto (tgt := 16) hx hb dX2_quotientUp_6 (by decide) ?_
    exact W.iret (v := 0) hx hb hr (fun t ht hW9 => ⟨_, rfl, (by simp [ck_up, Int32.not_le.mp c_2]), ht⟩) (fun _ h => nomatch h) dX2_quotientUp_16
def ck_bit (q : Int32) : Int64 := (1 : Int64) <<< ((q - q / 64 * 64).toInt64 &&& 63)
set_option maxHeartbeats 4000000 in
set_option maxRecDepth 100000 in
theorem ct_X3_bitOf (l : Launch) (G : ck_G) (H : Heap) (a0 : Int32) : Met l yX3_bitOf wsX3_bitOf ({ frames := 0, cells := 0, slots := 0, locals := 0 }) (ck_P G H [.int a0]) (vp_Sl (fun r => r = ck_bit a0)) 0 0 (fun _ => False) := by
  refine Met.ofW (cc := cX3_bitOf) (maxL := 1) (ret := (some .long)) (by decide) rfl ?_
  intro p e s m args below meth c s₁ B hml hv
  obtain ⟨rfl, hH, hKK⟩ := hv
  subst hH
  have hx := B.exec
  have hb := B.bytes
  have hr := B.returns
  have hts := atoms_spec (ws := wsX3_bitOf) B.pre
  have hown : s.vm.findClass RX3 = some m.cls := findClass_of_methodNamed B.named
  have hlocks := B.notSynchronized
  have hKK0 := hKK
  have hK := hKK.1.1
  have hl := lv_entry ([.int a0]) (n := 1) (Nat.le_of_ble_eq_true rfl)
  rw [lg_entry_eq]
  generalize (lg_sl ([.int a0]) ++ List.replicate (1 - (lg_sl ([.int a0])).length) Slot.unset).toArray = ls at hl ⊢
  have hl : lv_has ls 1 [(0, .int a0)] := hl
  refine lv_lconst (v := 1) hx hb dX3_bitOf_0 (by decide) ?_
  refine lv_iload_n hx hb dX3_bitOf_1 rfl (lv_at hl 0 rfl) ?_
  refine lv_bipush (v := 64) hx hb dX3_bitOf_2 (by decide) ?_
  refine lv_irem hx hb dX3_bitOf_4 (by decide) ?_
  refine lv_lshl (v := 1 <<< (((a0 - a0 / 64 * 64) : Int32).toInt64 &&& 63)) hx hb dX3_bitOf_5 rfl ?_
  exact W.lret (v := (1 <<< (((a0 - a0 / 64 * 64) : Int32).toInt64 &&& 63))) hx hb hr (fun t ht hW9 => ⟨_, rfl, rfl, ht⟩) (fun _ h => nomatch h) dX3_bitOf_6
