/-- what a call of the class leaves as it was: the reference's cells -/
def ck_sD (F F1 : Nat → va_E) : Prop := ∀ i, 30 ≤ i → i < 60 → F1 i = F i
theorem ck_sD.put {F F1 F2 : Nat → va_E} (h : ck_sD F F1) {i : Nat} (hi : i < 30 ∨ 60 ≤ i) (o : ∀ j, j ≠ i → F2 j = F1 j) : ck_sD F F2 := fun j h1 h2 => (o j (by omega)).trans (h j h1 h2)
theorem ck_sD.tr {F F1 F2 : Nat → va_E} (h : ck_sD F F1) (h2 : ck_sD F1 F2) : ck_sD F F2 := fun j a b => (h2 j a b).trans (h j a b)
theorem ck_C.setCall {G : ck_G} {ad : Nat → Nat} {V V1 : Nat → Nat → Int32} {L : Nat → Nat → Int64} {nc nr : Nat} {N : Nat → Prop} {F F1 : Nat → va_E} (h : ck_C G ad V L nc nr N F) {k : Nat} (hk : k < nc) (hV : ∀ i, 6 < i → V1 i = V i) (hV2 : ∀ i j, j ≠ k → V1 i j = V i j) (e : F1 (100 + k) = .inr (0, [.int (nI k), .int (V1 0 k), .int (V1 1 k), .int (V1 2 k), .int (V1 3 k), .int (V1 4 k), .int (V1 5 k), .int (V1 6 k)])) (o : ∀ j, j ≠ 100 + k → F1 j = F j) : ck_C G ad V1 L nc nr N F1 := by
  have hn := h.nc
  exact ⟨h.nc, h.nr, (o 0 (by omega)).trans (by rw [hV 13 (by decide)]; exact h.f0), (by obtain ⟨f, e1, e2⟩ := h.f1; exact ⟨f, (o (1) (by omega)).trans e1, e2⟩), (by obtain ⟨f, e1, e2⟩ := h.f2; exact ⟨f, (o (2) (by omega)).trans e1, e2⟩), (by obtain ⟨f, e1, e2⟩ := h.f3; exact ⟨f, (o (3) (by omega)).trans e1, e2⟩), (by obtain ⟨f, e1, e2⟩ := h.f4; exact ⟨f, (o (4) (by omega)).trans e1, e2⟩), (fun q hq => (o (5 + q) (by omega)).trans (by rw [hV 14 (by decide), hV 16 (by decide), hV 17 (by decide), hV 15 (by decide)]; exact h.src q hq)), (fun q hq => (o (8 + q) (by omega)).trans (h.del q hq)), (fun q hq => (o (11 + q) (by omega)).trans (h.car q hq)), (fun q hq => (o (15 + q) (by omega)).trans (by rw [hV (20 + q) (by omega)]; exact h.pre q hq)), (fun q hq => (o (19 + q) (by omega)).trans (by rw [hV (24 + q) (by omega)]; exact h.pri q hq)), (fun q hq => by
    by_cases e9 : q = k
    · subst e9; exact e
    · exact (o (100 + q) (by omega)).trans (by rw [hV2 0 q e9, hV2 1 q e9, hV2 2 q e9, hV2 3 q e9, hV2 4 q e9, hV2 5 q e9, hV2 6 q e9]; exact h.call q hq)), (fun q hq => (o (200 + q) (by omega)).trans (by rw [hV 7 (by decide), hV 8 (by decide), hV 9 (by decide), hV 10 (by decide), hV 11 (by decide), hV 12 (by decide)]; exact h.rate q hq)), h.n, h.ncall, h.nrate⟩
theorem ck_C.set0 {G : ck_G} {ad : Nat → Nat} {V V1 : Nat → Nat → Int32} {L : Nat → Nat → Int64} {nc nr : Nat} {N : Nat → Prop} {F F1 : Nat → va_E} (h : ck_C G ad V L nc nr N F) (hV : ∀ i, i ≠ 13 → V1 i = V i) (e : F1 0 = .inr (4, [.ref (ad 1), .ref (ad 2), .int (nI nc), .int (V1 13 0), .ref (ad 3), .int (nI nr), .int (V1 13 1), .ref (ad 4)])) (o : ∀ j, j ≠ 0 → F1 j = F j) : ck_C G ad V1 L nc nr N F1 :=
  ⟨h.nc, h.nr, e, (by obtain ⟨f, e1, e2⟩ := h.f1; exact ⟨f, (o (1) (by omega)).trans e1, e2⟩), (by obtain ⟨f, e1, e2⟩ := h.f2; exact ⟨f, (o (2) (by omega)).trans e1, e2⟩), (by obtain ⟨f, e1, e2⟩ := h.f3; exact ⟨f, (o (3) (by omega)).trans e1, e2⟩), (by obtain ⟨f, e1, e2⟩ := h.f4; exact ⟨f, (o (4) (by omega)).trans e1, e2⟩), (fun q hq => (o (5 + q) (by omega)).trans (by rw [hV 14 (by decide), hV 16 (by decide), hV 17 (by decide), hV 15 (by decide)]; exact h.src q hq)), (fun q hq => (o (8 + q) (by omega)).trans (h.del q hq)), (fun q hq => (o (11 + q) (by omega)).trans (h.car q hq)), (fun q hq => (o (15 + q) (by omega)).trans (by rw [hV (20 + q) (by omega)]; exact h.pre q hq)), (fun q hq => (o (19 + q) (by omega)).trans (by rw [hV (24 + q) (by omega)]; exact h.pri q hq)), (fun q hq => (o (100 + q) (by omega)).trans (by rw [hV 0 (by decide), hV 1 (by decide), hV 2 (by decide), hV 3 (by decide), hV 4 (by decide), hV 5 (by decide), hV 6 (by decide)]; exact h.call q hq)), (fun q hq => (o (200 + q) (by omega)).trans (by rw [hV 7 (by decide), hV 8 (by decide), hV 9 (by decide), hV 10 (by decide), hV 11 (by decide), hV 12 (by decide)]; exact h.rate q hq)), h.n, h.ncall, h.nrate⟩
theorem ck_C.set5 {G : ck_G} {ad : Nat → Nat} {V : Nat → Nat → Int32} {L : Nat → Nat → Int64} {nc nr : Nat} {N : Nat → Prop} {F F1 : Nat → va_E} (h : ck_C G ad V L nc nr N F) {k : Nat} (hk : k < nc) {x : Int32} (e : F1 (100 + k) = .inr (0, [.int (nI k), .int (V 0 k), .int (V 1 k), .int (V 2 k), .int (V 3 k), .int (V 4 k), .int x, .int (V 6 k)])) (o : ∀ j, j ≠ 100 + k → F1 j = F j) : ck_C G ad (va_up V 5 (upd (V 5) k x)) L nc nr N F1 :=
  h.setCall hk (fun i hi => va_up_ne _ _ (by omega)) (fun i j hj => by by_cases h5 : i = 5 <;> simp [va_up, upd, h5, hj]) (e.trans (by simp [va_up, upd])) o
theorem ck_C.set6 {G : ck_G} {ad : Nat → Nat} {V : Nat → Nat → Int32} {L : Nat → Nat → Int64} {nc nr : Nat} {N : Nat → Prop} {F F1 : Nat → va_E} (h : ck_C G ad V L nc nr N F) {k : Nat} (hk : k < nc) {x : Int32} (e : F1 (100 + k) = .inr (0, [.int (nI k), .int (V 0 k), .int (V 1 k), .int (V 2 k), .int (V 3 k), .int (V 4 k), .int (V 5 k), .int x])) (o : ∀ j, j ≠ 100 + k → F1 j = F j) : ck_C G ad (va_up V 6 (upd (V 6) k x)) L nc nr N F1 :=
  h.setCall hk (fun i hi => va_up_ne _ _ (by omega)) (fun i j hj => by by_cases h6 : i = 6 <;> simp [va_up, upd, h6, hj]) (e.trans (by simp [va_up, upd])) o
theorem ck_C.set13 {G : ck_G} {ad : Nat → Nat} {V : Nat → Nat → Int32} {L : Nat → Nat → Int64} {nc nr : Nat} {N : Nat → Prop} {F F1 : Nat → va_E} (h : ck_C G ad V L nc nr N F) {a b : Int32} {g : Nat → Int32} (ha : g 0 = a) (hb : g 1 = b) (e : F1 0 = .inr (4, [.ref (ad 1), .ref (ad 2), .int (nI nc), .int a, .ref (ad 3), .int (nI nr), .int b, .ref (ad 4)])) (o : ∀ j, j ≠ 0 → F1 j = F j) : ck_C G ad (va_up V 13 g) L nc nr N F1 :=
  h.set0 (fun i hi => va_up_ne _ _ hi) (e.trans (by rw [va_up_self, ha, hb])) o
/-- what one correction does -/
def ck_R1 (V : Nat → Nat → Int32) (nr k : Nat) (r : Int32) (V1 : Nat → Nat → Int32) : Prop := ((ck_now V nr k = -1 ∨ ck_now V nr k = V 5 k) ∧ r = 0 ∧ V1 = V) ∨ (¬ (ck_now V nr k = -1 ∨ ck_now V nr k = V 5 k) ∧ r = ck_now V nr k - V 5 k ∧ V1 = va_up (va_up V 5 (upd (V 5) k (ck_now V nr k))) 13 (upd (V 13) 1 (V 13 1 + 1)))
set_option maxHeartbeats 4000000 in
set_option maxRecDepth 100000 in
theorem ct_X4_calls (l : Launch) (G : ck_G) (H : Heap) (ad : Nat → Nat) (N : Nat → Prop) (F : Nat → va_E) (hW : ck_W G ad N F H) (V : Nat → Nat → Int32) (L : Nat → Nat → Int64) (nc nr : Nat) (hC : ck_C G ad V L nc nr N F) : Met l yX4_calls wsX4_calls ({ frames := 0, cells := 0, slots := 0, locals := 0 }) (ck_P G H [.ref (ad 0)]) (vp_Si (fun r => r = nI nc)) 0 0 (fun _ => False) := by
  refine Met.ofW (cc := cX4_calls) (maxL := 1) (ret := (some .int)) (by decide) rfl ?_
  intro p e s m args below meth c s₁ B hml hv
  obtain ⟨rfl, hH, hKK⟩ := hv
  subst hH
  have hx := B.exec
  have hb := B.bytes
  have hr := B.returns
  have hts := atoms_spec (ws := wsX4_calls) B.pre
  have hown : s.vm.findClass RX4 = some m.cls := findClass_of_methodNamed B.named
  have hlocks := B.notSynchronized
  have hKK0 := hKK
  have hK := hKK.1.1
  have hinX4 : ∀ w ∈ u_ws RX4 TX4 8, w ∈ wsX4_calls := by decide +kernel
  have hl := lv_entry ([.ref (ad 0)]) (n := 1) (Nat.le_of_ble_eq_true rfl)
  rw [lg_entry_eq]
  generalize (lg_sl ([.ref (ad 0)]) ++ List.replicate (1 - (lg_sl ([.ref (ad 0)])).length) Slot.unset).toArray = ls at hl ⊢
  have hl : lv_has ls 1 [(0, .ref (ad 0))] := hl
  refine lv_aload_n hx hb dX4_calls_0 rfl (lv_at hl 0 rfl) ?_
  refine ck_get (v := .int (nI nc)) hx hb hts hinX4 hown hK hW (hC.n 0 (by decide)) hC.f0 rfl 2 (by decide) (hts _ (List.mem_of_getElem? (i := 1) rfl)) rfl rfl dX4_calls_1 ?_
  exact W.iret (v := (nI nc)) hx hb hr (fun t ht hW9 => ⟨_, rfl, rfl, ht⟩) (fun _ h => nomatch h) dX4_calls_4
set_option maxHeartbeats 4000000 in
set_option maxRecDepth 100000 in
theorem ct_X4_corrections (l : Launch) (G : ck_G) (H : Heap) (ad : Nat → Nat) (N : Nat → Prop) (F : Nat → va_E) (hW : ck_W G ad N F H) (V : Nat → Nat → Int32) (L : Nat → Nat → Int64) (nc nr : Nat) (hC : ck_C G ad V L nc nr N F) : Met l yX4_corrections wsX4_corrections ({ frames := 0, cells := 0, slots := 0, locals := 0 }) (ck_P G H [.ref (ad 0)]) (vp_Si (fun r => r = V 13 1)) 0 0 (fun _ => False) := by
  refine Met.ofW (cc := cX4_corrections) (maxL := 1) (ret := (some .int)) (by decide) rfl ?_
  intro p e s m args below meth c s₁ B hml hv
  obtain ⟨rfl, hH, hKK⟩ := hv
  subst hH
  have hx := B.exec
  have hb := B.bytes
  have hr := B.returns
  have hts := atoms_spec (ws := wsX4_corrections) B.pre
  have hown : s.vm.findClass RX4 = some m.cls := findClass_of_methodNamed B.named
  have hlocks := B.notSynchronized
  have hKK0 := hKK
  have hK := hKK.1.1
  have hinX4 : ∀ w ∈ u_ws RX4 TX4 8, w ∈ wsX4_corrections := by decide +kernel
  have hl := lv_entry ([.ref (ad 0)]) (n := 1) (Nat.le_of_ble_eq_true rfl)
  rw [lg_entry_eq]
  generalize (lg_sl ([.ref (ad 0)]) ++ List.replicate (1 - (lg_sl ([.ref (ad 0)])).length) Slot.unset).toArray = ls at hl ⊢
  have hl : lv_has ls 1 [(0, .ref (ad 0))] := hl
  refine lv_aload_n hx hb dX4_corrections_0 rfl (lv_at hl 0 rfl) ?_
  refine ck_get (v := .int (V 13 1)) hx hb hts hinX4 hown hK hW (hC.n 0 (by decide)) hC.f0 rfl 6 (by decide) (hts _ (List.mem_of_getElem? (i := 1) rfl)) rfl rfl dX4_corrections_1 ?_
  exact W.iret (v := (V 13 1)) hx hb hr (fun t ht hW9 => ⟨_, rfl, rfl, ht⟩) (fun _ h => nomatch h) dX4_corrections_4
set_option maxHeartbeats 4000000 in
set_option maxRecDepth 100000 in
theorem ct_X4_changeByCorrecting (l : Launch) (G : ck_G) (H : Heap) (ad : Nat → Nat) (N : Nat → Prop) (F : Nat → va_E) (hW : ck_W G ad N F H) (V : Nat → Nat → Int32) (L : Nat → Nat → Int64) (nc nr : Nat) (hC : ck_C G ad V L nc nr N F) (k : Nat) (hk : k < nc) : Met l yX4_changeByCorrecting wsX4_changeByCorrecting ({ frames := 3, cells := 0, slots := 0, locals := 72 }) (ck_P G H [.ref (ad 0), .ref (ad (100 + k))]) (ck_Qi G (fun r H1 => ∃ V1 F1, ck_R1 V nr k r V1 ∧ ck_W G ad N F1 H1 ∧ ck_C G ad V1 L nc nr N F1 ∧ ck_sD F F1)) 0 0 (ck_A G) := by
  refine Met.ofW (cc := cX4_changeByCorrecting) (maxL := 4) (ret := (some .int)) (by decide) rfl ?_
  intro p e s m args below meth c s₁ B hml hv
  obtain ⟨rfl, hH, hKK⟩ := hv
  subst hH
  have hx := B.exec
  have hb := B.bytes
  have hr := B.returns
  have hts := atoms_spec (ws := wsX4_changeByCorrecting) B.pre
  have hown : s.vm.findClass RX4 = some m.cls := findClass_of_methodNamed B.named
  have hlocks := B.notSynchronized
  have hKK0 := hKK
  have hK := hKK.1.1
  have hS : va_S (ck_A G) s.heap s.heap [] := va_S.rf
  have hinX0 : ∀ w ∈ u_ws RX0 TX0 8, w ∈ wsX4_changeByCorrecting := by decide +kernel
  have hinX4 : ∀ w ∈ u_ws RX4 TX4 8, w ∈ wsX4_changeByCorrecting := by decide +kernel
  have hl := lv_entry ([.ref (ad 0), .ref (ad (100 + k))]) (n := 4) (Nat.le_of_ble_eq_true rfl)
  rw [lg_entry_eq]
  generalize (lg_sl ([.ref (ad 0), .ref (ad (100 + k))]) ++ List.replicate (4 - (lg_sl ([.ref (ad 0), .ref (ad (100 + k))])).length) Slot.unset).toArray = ls at hl ⊢
  have hl : lv_has ls 4 [(0, .ref (ad 0)), (1, .ref (ad (100 + k)))] := hl
  have hsm : ck_sD F F := fun _ _ _ => rfl
  refine lv_aload_n hx hb dX4_changeByCorrecting_0 rfl (lv_at hl 0 rfl) ?_
  refine lv_aload_n hx hb dX4_changeByCorrecting_1 rfl (lv_at hl 1 rfl) ?_
  refine ck_cVi (As := [.ref (ad (100 + k))]) (rest := []) ⟨hx, hb, hml, hown, hts⟩ hKK (ct_X4_chargeNow l G s.heap ad N F hW V L nc nr hC k hk) (cwV 1 hts gX4_changeByCorrecting_X4_chargeNow rfl rfl rfl (by decide +kernel) ⟨Nat.le_of_ble_eq_true rfl, Nat.le_of_ble_eq_true rfl⟩) (ck_recv hK hW (hC.n 0 (by decide)) hC.f0 rfl) rfl hl rfl (Nat.le_of_ble_eq_true rfl) dX4_changeByCorrecting_2 ⟨Nat.le_of_ble_eq_true rfl, Nat.le_of_ble_eq_true rfl⟩ (fun r_2 h_2 => ?_)
  subst h_2
  refine lv_istore_n (lv' := [(2, .int (ck_now V nr k)), (0, .ref (ad 0)), (1, .ref (ad (100 + k)))]) hx hb dX4_changeByCorrecting_5 rfl hl (by decide) rfl (fun ls hl => ?_)
  refine lv_iload_n hx hb dX4_changeByCorrecting_6 rfl (lv_at hl 0 rfl) ?_
  refine lv_iconst (v := (-1)) hx hb dX4_changeByCorrecting_7 (by decide) ?_
  refine lv_icmp_eq (tgt := 19) hx hb dX4_changeByCorrecting_8 (by decide) (fun c_8 => ?_) (fun c_8 => ?_)
  · skip
    refine lv_iconst (v := 0) hx hb dX4_changeByCorrecting_19 (by decide) ?_
    exact W.iret (v := 0) hx hb hr (fun t ht hW9 => ⟨⟨_, rfl, by rw [ht]; exact ⟨_, F, Or.inl ⟨Or.inl c_8, rfl, rfl⟩, hW, hC, hsm⟩⟩, hS.F ht⟩) hS.2.2 dX4_changeByCorrecting_20
  · skip
    refine lv_iload_n hx hb dX4_changeByCorrecting_11 rfl (lv_at hl 0 rfl) ?_
    refine lv_aload_n hx hb dX4_changeByCorrecting_12 rfl (lv_at hl 2 rfl) ?_
    refine ck_get (v := .int (V 5 k)) hx hb hts hinX0 hown hK hW (hC.ncall k hk) (hC.call k hk) rfl 6 (by decide) (hts _ (List.mem_of_getElem? (i := 1) rfl)) rfl rfl dX4_changeByCorrecting_13 ?_
    refine lv_icmp_ne (tgt := 21) hx hb dX4_changeByCorrecting_16 (by decide) (fun c_16 => ?_) (fun c_16 => ?_)
    · skip
      refine lv_iload_n hx hb dX4_changeByCorrecting_21 rfl (lv_at hl 0 rfl) ?_
      refine lv_aload_n hx hb dX4_changeByCorrecting_22 rfl (lv_at hl 2 rfl) ?_
      refine ck_get (v := .int (V 5 k)) hx hb hts hinX0 hown hK hW (hC.ncall k hk) (hC.call k hk) rfl 6 (by decide) (hts _ (List.mem_of_getElem? (i := 1) rfl)) rfl rfl dX4_changeByCorrecting_23 ?_
      refine lv_isub hx hb dX4_changeByCorrecting_26 ?_
      refine lv_istore_n (lv' := [(3, .int (((ck_now V nr k)) - ((V 5 k)))), (2, .int (ck_now V nr k)), (0, .ref (ad 0)), (1, .ref (ad (100 + k)))]) hx hb dX4_changeByCorrecting_27 rfl hl (by decide) rfl (fun ls hl => ?_)
      refine lv_aload_n hx hb dX4_changeByCorrecting_28 rfl (lv_at hl 3 rfl) ?_
      refine lv_iload_n hx hb dX4_changeByCorrecting_29 rfl (lv_at hl 1 rfl) ?_
      refine ck_put (v := .int (ck_now V nr k)) (ty := .int) hx hb hts hinX0 tyX0 tyX0_ok nmX0 hown hK hW hS (hC.ncall k hk) (hC.call k hk) rfl 6 (by decide) (hts _ (List.mem_of_getElem? (i := 1) rfl)) rfl rfl (by decide +kernel) rfl rfl (Nat.le_of_ble_eq_true rfl) dX4_changeByCorrecting_30 (fun H locs hW hS hz30 => ?_)
      obtain ⟨F_30, hFe30, hFo30, hW⟩ := ck_name hW
      have hC := hC.set5 hk hFe30 hFo30
      have hsm := hsm.put (by omega) hFo30
      have hKK := hKK0.keep hS.2.1
      refine lv_aload_n hx hb dX4_changeByCorrecting_33 rfl (lv_at hl 2 rfl) ?_
      refine lv_dup hx hb dX4_changeByCorrecting_34 rfl ?_
      refine ck_get (v := .int (V 13 1)) hx hb hts hinX4 hown hK hW (hC.n 0 (by decide)) hC.f0 rfl 6 (by decide) (hts _ (List.mem_of_getElem? (i := 2) rfl)) rfl rfl dX4_changeByCorrecting_35 ?_
      refine lv_iconst (v := 1) hx hb dX4_changeByCorrecting_38 (by decide) ?_
      refine lv_iadd hx hb dX4_changeByCorrecting_39 ?_
      refine ck_put (v := .int (((V 13 1)) + 1)) (ty := .int) hx hb hts hinX4 tyX4 tyX4_ok nmX4 hown hK hW hS (hC.n 0 (by decide)) hC.f0 rfl 6 (by decide) (hts _ (List.mem_of_getElem? (i := 2) rfl)) rfl rfl (by decide +kernel) rfl rfl (Nat.le_of_ble_eq_true rfl) dX4_changeByCorrecting_40 (fun H locs hW hS hz40 => ?_)
      obtain ⟨F_40, hFe40, hFo40, hW⟩ := ck_name hW
      have hC := hC.set13 (g := upd (V 13) 1 (V 13 1 + 1)) rfl rfl hFe40 hFo40
      have hsm := hsm.put (by omega) hFo40
      have hKK := hKK0.keep hS.2.1
      refine lv_iload_n hx hb dX4_changeByCorrecting_43 rfl (lv_at hl 0 rfl) ?_
      exact W.iret (v := (((ck_now V nr k)) - ((V 5 k)))) hx hb hr (fun t ht hW9 => ⟨⟨_, rfl, by rw [ht]; exact ⟨_, F_40, Or.inr ⟨fun z => z.elim c_8 c_16, rfl, rfl⟩, hW, hC, hsm⟩⟩, hS.F ht⟩) hS.2.2 dX4_changeByCorrecting_44
    · skip
      refine lv_iconst (v := 0) hx hb dX4_changeByCorrecting_19 (by decide) ?_
      exact W.iret (v := 0) hx hb hr (fun t ht hW9 => ⟨⟨_, rfl, by rw [ht]; exact ⟨_, F, Or.inl ⟨Or.inr c_16, rfl, rfl⟩, hW, hC, hsm⟩⟩, hS.F ht⟩) hS.2.2 dX4_changeByCorrecting_20
