def ck_Rset (V : Nat → Nat → Int32) (a0 k r : Int32) (V1 : Nat → Nat → Int32) : Prop := (¬ (0 ≤ a0 ∧ a0 ≤ 100) ∧ k = 1 ∧ V1 = V) ∨ ((0 ≤ a0 ∧ a0 ≤ 100) ∧ k = 0 ∧ r = V 13 0 ∧ V1 = va_up V 13 (upd (V 13) 0 a0))
set_option maxHeartbeats 4000000 in
set_option maxRecDepth 100000 in
theorem ct_X5_setBound (l : Launch) (G : ck_G) (H : Heap) (ad : Nat → Nat) (N : Nat → Prop) (F : Nat → va_E) (hW : ck_W G ad N F H) (V : Nat → Nat → Int32) (L : Nat → Nat → Int64) (nc nr : Nat) (t : Int32) (hM : ck_M G ad V L nc nr t N F) (hI : ck_I V nc nr) (a0 : Int32) : Met l yX5_setBound wsX5_setBound ({ frames := 1, cells := 0, slots := 0, locals := 22 }) (ck_P G H [.ref (ad 30), .int a0]) (ck_Qi G (fun r H1 => ∃ t1 V1 F1, ck_Rset V a0 t1 r V1 ∧ ck_W G ad N F1 H1 ∧ ck_M G ad V1 L nc nr t1 N F1 ∧ ck_sM F F1)) 0 0 (ck_A G) := by
  refine Met.ofW (cc := cX5_setBound) (maxL := 3) (ret := (some .int)) (by decide) rfl ?_
  intro p e s m args below meth c s₁ B hml hv
  obtain ⟨rfl, hH, hKK⟩ := hv
  subst hH
  have hx := B.exec
  have hb := B.bytes
  have hr := B.returns
  have hts := atoms_spec (ws := wsX5_setBound) B.pre
  have hown : s.vm.findClass RX5 = some m.cls := findClass_of_methodNamed B.named
  have hlocks := B.notSynchronized
  have hKK0 := hKK
  have hK := hKK.1.1
  have hS : va_S (ck_A G) s.heap s.heap [] := va_S.rf
  have hinX5 : ∀ w ∈ u_ws RX5 TX5 26, w ∈ wsX5_setBound := by decide +kernel
  have hl := lv_entry ([.ref (ad 30), .int a0]) (n := 3) (Nat.le_of_ble_eq_true rfl)
  rw [lg_entry_eq]
  generalize (lg_sl ([.ref (ad 30), .int a0]) ++ List.replicate (3 - (lg_sl ([.ref (ad 30), .int a0])).length) Slot.unset).toArray = ls at hl ⊢
  have hl : lv_has ls 3 [(0, .ref (ad 30)), (1, .int a0)] := hl
  have hsm : ck_sM F F := ck_sM.rf
  have hp7 := hI.hp7
  have hn0 := hI.hn0
  have hst := hI.hst
  refine lv_aload_n hx hb dX5_setBound_0 rfl (lv_at hl 0 rfl) ?_
  refine lv_iload_n hx hb dX5_setBound_1 rfl (lv_at hl 1 rfl) ?_
  refine lv_iconst (v := 0) hx hb dX5_setBound_2 (by decide) ?_
  refine lv_bipush (v := 100) hx hb dX5_setBound_3 (by decide) ?_
  refine ck_cSi (As := [.int a0, .int 0, .int 100]) (rest := [.ref (ad 30)]) ⟨hx, hb, hml, hown, hts⟩ hKK (ct_X5_in l G s.heap a0 0 100) (va_cwS 3 hts gX5_setBound_X5_in rfl rfl rfl (by decide +kernel) ⟨Nat.le_of_ble_eq_true rfl, Nat.le_of_ble_eq_true rfl⟩) rfl hl rfl (Nat.le_of_ble_eq_true rfl) dX5_setBound_5 ⟨Nat.le_of_ble_eq_true rfl, Nat.le_of_ble_eq_true rfl⟩ (fun r_5 h_5 => ?_)
  rcases h_5 with ⟨h_5, rfl⟩ | ⟨h_5, rfl⟩
  · skip
    refine ck_cVw (As := [.int 1]) (rest := []) ⟨hx, hb, hml, hown, hts⟩ hKK (ct_X5_asks1 l G s.heap ad N F hW V L nc nr t hM) (cwV 1 hts gX5_setBound_X5_asks rfl rfl rfl (by decide +kernel) ⟨Nat.le_of_ble_eq_true rfl, Nat.le_of_ble_eq_true rfl⟩) (ck_recv hK hW (hM.n 30 (by decide) (by decide)) hM.f30 rfl) rfl hl rfl (Nat.le_of_ble_eq_true rfl) dX5_setBound_8 ⟨Nat.le_of_ble_eq_true rfl, Nat.le_of_ble_eq_true rfl⟩ hS (fun r_8 H locs h_8 hz_8 hS => ?_)
    have hKK := hKK0.keep hS.2.1
    obtain ⟨rfl, F_8, hW, hM, hs8⟩ := h_8
    have hsm := hsm.tr hs8
    refine lv_if_ne (tgt := 16) hx hb dX5_setBound_11 (by decide) (fun _ => ?_) (fun c_11 => absurd c_11 (by decide))
    refine lv_aload_n hx hb dX5_setBound_16 rfl (lv_at hl 0 rfl) ?_
    refine ck_get (v := .int (V 13 0)) hx hb hts hinX5 hown hK hW (hM.n 30 (by decide) (by decide)) hM.f30 rfl 0 (by decide) (hts _ (List.mem_of_getElem? (i := 1) rfl)) rfl rfl dX5_setBound_17 ?_
    refine lv_istore_n (lv' := [(2, .int (V 13 0)), (0, .ref (ad 30)), (1, .int a0)]) hx hb dX5_setBound_20 rfl hl (by decide) rfl (fun ls hl => ?_)
    refine lv_aload_n hx hb dX5_setBound_21 rfl (lv_at hl 1 rfl) ?_
    refine lv_iload_n hx hb dX5_setBound_22 rfl (lv_at hl 2 rfl) ?_
    refine ck_put (v := .int a0) (ty := .int) hx hb hts hinX5 tyX5 tyX5_ok nmX5 hown hK hW hS (hM.n 30 (by decide) (by decide)) hM.f30 rfl 0 (by decide) (hts _ (List.mem_of_getElem? (i := 1) rfl)) rfl rfl (by decide +kernel) rfl rfl (Nat.le_of_ble_eq_true rfl) dX5_setBound_23 (fun H locs hW hS hz23 => ?_)
    obtain ⟨F_23, hFe23, hFo23, hW⟩ := ck_name hW
    have hM := hM.setB hFe23 hFo23 (g := upd (V 13) 0 a0) rfl rfl
    have hsm := hsm.put (by decide) hFo23
    have hKK := hKK0.keep hS.2.1
    refine lv_iload_n hx hb dX5_setBound_26 rfl (lv_at hl 0 rfl) ?_
    exact W.iret (v := (V 13 0)) hx hb hr (fun t ht hW9 => ⟨⟨_, rfl, by rw [ht]; exact ⟨_, _, F_23, Or.inr ⟨h_5, rfl, rfl, rfl⟩, hW, hM, hsm⟩⟩, hS.F ht⟩) hS.2.2 dX5_setBound_27
  · skip
    refine ck_cVw (As := [.int 0]) (rest := []) ⟨hx, hb, hml, hown, hts⟩ hKK (ct_X5_asks0 l G s.heap ad N F hW V L nc nr t hM) (cwV 1 hts gX5_setBound_X5_asks rfl rfl rfl (by decide +kernel) ⟨Nat.le_of_ble_eq_true rfl, Nat.le_of_ble_eq_true rfl⟩) (ck_recv hK hW (hM.n 30 (by decide) (by decide)) hM.f30 rfl) rfl hl rfl (Nat.le_of_ble_eq_true rfl) dX5_setBound_8 ⟨Nat.le_of_ble_eq_true rfl, Nat.le_of_ble_eq_true rfl⟩ hS (fun r_8 H locs h_8 hz_8 hS => ?_)
    have hKK := hKK0.keep hS.2.1
    obtain ⟨rfl, F_8, hW, hM, hs8⟩ := h_8
    have hsm := hsm.tr hs8
    refine lv_if_ne (tgt := 16) hx hb dX5_setBound_11 (by decide) (fun c_11 => absurd (by decide) c_11) (fun _ => ?_)
    refine lv_iconst (v := 0) hx hb dX5_setBound_14 (by decide) ?_
    exact W.iret (v := 0) hx hb hr (fun t ht hW9 => ⟨⟨_, rfl, by rw [ht]; exact ⟨_, _, F_8, Or.inl ⟨h_5, rfl, rfl⟩, hW, hM, hsm⟩⟩, hS.F ht⟩) hS.2.2 dX5_setBound_15
def ck_Rclaim (V : Nat → Nat → Int32) (nc : Nat) (a0 a1 k r : Int32) (V1 : Nat → Nat → Int32) : Prop := (¬ ck_ok a0 nc ∧ k = 1 ∧ V1 = V) ∨ (∃ j, j < nc ∧ a0 = nI j ∧ ((¬ (0 ≤ a1 ∧ a1 ≤ 1000000) ∧ k = 2 ∧ V1 = V) ∨ ((0 ≤ a1 ∧ a1 ≤ 1000000) ∧ k = 0 ∧ r = V 6 j ∧ V1 = va_up V 6 (upd (V 6) j a1))))
set_option maxHeartbeats 4000000 in
set_option maxRecDepth 100000 in
theorem ct_X5_claim (l : Launch) (G : ck_G) (H : Heap) (ad : Nat → Nat) (N : Nat → Prop) (F : Nat → va_E) (hW : ck_W G ad N F H) (V : Nat → Nat → Int32) (L : Nat → Nat → Int64) (nc nr : Nat) (t : Int32) (hM : ck_M G ad V L nc nr t N F) (hI : ck_I V nc nr) (a0 a1 : Int32) : Met l yX5_claim wsX5_claim ({ frames := 1, cells := 0, slots := 0, locals := 22 }) (ck_P G H [.ref (ad 30), .int a0, .int a1]) (ck_Qi G (fun r H1 => ∃ t1 V1 F1, ck_Rclaim V nc a0 a1 t1 r V1 ∧ ck_W G ad N F1 H1 ∧ ck_M G ad V1 L nc nr t1 N F1 ∧ ck_sM F F1)) 0 0 (ck_A G) := by
  refine Met.ofW (cc := cX5_claim) (maxL := 4) (ret := (some .int)) (by decide) rfl ?_
  intro p e s m args below meth c s₁ B hml hv
  obtain ⟨rfl, hH, hKK⟩ := hv
  subst hH
  have hx := B.exec
  have hb := B.bytes
  have hr := B.returns
  have hts := atoms_spec (ws := wsX5_claim) B.pre
  have hown : s.vm.findClass RX5 = some m.cls := findClass_of_methodNamed B.named
  have hlocks := B.notSynchronized
  have hKK0 := hKK
  have hK := hKK.1.1
  have hS : va_S (ck_A G) s.heap s.heap [] := va_S.rf
  have hinX5 : ∀ w ∈ u_ws RX5 TX5 26, w ∈ wsX5_claim := by decide +kernel
  have hl := lv_entry ([.ref (ad 30), .int a0, .int a1]) (n := 4) (Nat.le_of_ble_eq_true rfl)
  rw [lg_entry_eq]
  generalize (lg_sl ([.ref (ad 30), .int a0, .int a1]) ++ List.replicate (4 - (lg_sl ([.ref (ad 30), .int a0, .int a1])).length) Slot.unset).toArray = ls at hl ⊢
  have hl : lv_has ls 4 [(0, .ref (ad 30)), (1, .int a0), (2, .int a1)] := hl
  have hsm : ck_sM F F := ck_sM.rf
  have hp7 := hI.hp7
  have hn0 := hI.hn0
  have hst := hI.hst
  refine lv_aload_n hx hb dX5_claim_0 rfl (lv_at hl 0 rfl) ?_
  refine lv_aload_n hx hb dX5_claim_1 rfl (lv_at hl 0 rfl) ?_
  refine lv_iload_n hx hb dX5_claim_2 rfl (lv_at hl 1 rfl) ?_
  refine ck_cVi (As := [.int a0]) (rest := [.ref (ad 30)]) ⟨hx, hb, hml, hown, hts⟩ hKK (ct_X5_isCall l G s.heap ad N F hW V L nc nr t hM a0) (cwV 1 hts gX5_claim_X5_isCall rfl rfl rfl (by decide +kernel) ⟨Nat.le_of_ble_eq_true rfl, Nat.le_of_ble_eq_true rfl⟩) (ck_recv hK hW (hM.n 30 (by decide) (by decide)) hM.f30 rfl) rfl hl rfl (Nat.le_of_ble_eq_true rfl) dX5_claim_3 ⟨Nat.le_of_ble_eq_true rfl, Nat.le_of_ble_eq_true rfl⟩ (fun r_3 h_3 => ?_)
  rcases h_3 with ⟨h_3, rfl⟩ | ⟨h_3, rfl⟩
  · skip
    refine ck_cVw (As := [.int 1]) (rest := []) ⟨hx, hb, hml, hown, hts⟩ hKK (ct_X5_asks1 l G s.heap ad N F hW V L nc nr t hM) (cwV 1 hts gX5_claim_X5_asks rfl rfl rfl (by decide +kernel) ⟨Nat.le_of_ble_eq_true rfl, Nat.le_of_ble_eq_true rfl⟩) (ck_recv hK hW (hM.n 30 (by decide) (by decide)) hM.f30 rfl) rfl hl rfl (Nat.le_of_ble_eq_true rfl) dX5_claim_6 ⟨Nat.le_of_ble_eq_true rfl, Nat.le_of_ble_eq_true rfl⟩ hS (fun r_6 H locs h_6 hz_6 hS => ?_)
    have hKK := hKK0.keep hS.2.1
    obtain ⟨rfl, F_6, hW, hM, hs6⟩ := h_6
    have hsm := hsm.tr hs6
    refine lv_if_ne (tgt := 14) hx hb dX5_claim_9 (by decide) (fun _ => ?_) (fun c_9 => absurd c_9 (by decide))
    obtain ⟨q, hq, rfl⟩ := ck_ok_ex h_3 (by have := hM.nc; omega)
    refine lv_iload_n hx hb dX5_claim_14 rfl (lv_at hl 2 rfl) ?_
    refine lv_iconst (v := 0) hx hb dX5_claim_15 (by decide) ?_
    refine lv_ldc (v := 1000000) hx hb hown (hts _ (List.mem_of_getElem? (i := 1) rfl)) dX5_claim_16 ?_
    refine ck_cSi (As := [.int a1, .int 0, .int 1000000]) (rest := []) ⟨hx, hb, hml, hown, hts⟩ hKK (ct_X5_in l G H a1 0 1000000) (va_cwS 3 hts gX5_claim_X5_in rfl rfl rfl (by decide +kernel) ⟨Nat.le_of_ble_eq_true rfl, Nat.le_of_ble_eq_true rfl⟩) rfl hl rfl (Nat.le_of_ble_eq_true rfl) dX5_claim_18 ⟨Nat.le_of_ble_eq_true rfl, Nat.le_of_ble_eq_true rfl⟩ (fun r_18 h_18 => ?_)
    rcases h_18 with ⟨h_18, rfl⟩ | ⟨h_18, rfl⟩
    · skip
      refine lv_if_ne (tgt := 30) hx hb dX5_claim_21 (by decide) (fun _ => ?_) (fun c_21 => absurd c_21 (by decide))
      refine lv_aload_n hx hb dX5_claim_30 rfl (lv_at hl 0 rfl) ?_
      refine ck_get (v := .ref (ad 42)) hx hb hts hinX5 hown hK hW (hM.n 30 (by decide) (by decide)) hM.f30 rfl 13 (by decide) (hts _ (List.mem_of_getElem? (i := 2) rfl)) rfl rfl dX5_claim_31 ?_
      refine lv_iload_n hx hb dX5_claim_34 rfl (lv_at hl 1 rfl) ?_
      refine ck_iald hx hb hK hW (hM.n 42 (by decide) (by decide)) hM.f42 q (rfl) (by have := hM.nc; omega) (by decide) dX5_claim_35 ?_
      refine lv_istore_n (lv' := [(3, .int (((V 6)) q)), (0, .ref (ad 30)), (1, .int (nI q)), (2, .int a1)]) hx hb dX5_claim_36 rfl hl (by decide) rfl (fun ls hl => ?_)
      refine lv_aload_n hx hb dX5_claim_37 rfl (lv_at hl 1 rfl) ?_
      refine ck_get (v := .ref (ad 42)) hx hb hts hinX5 hown hK hW (hM.n 30 (by decide) (by decide)) hM.f30 rfl 13 (by decide) (hts _ (List.mem_of_getElem? (i := 2) rfl)) rfl rfl dX5_claim_38 ?_
      refine lv_iload_n hx hb dX5_claim_41 rfl (lv_at hl 2 rfl) ?_
      refine lv_iload_n hx hb dX5_claim_42 rfl (lv_at hl 3 rfl) ?_
      refine ck_iast hx hb hK hW hS (hM.n 42 (by decide) (by decide)) hM.f42 q (rfl) (by have := hM.nc; omega) (by decide) dX5_claim_43 (fun H locs hW hS hz43 => ?_)
      obtain ⟨F_43, hFe43, hFo43, hW⟩ := ck_name hW
      have hM := hM.set42 hFe43 hFo43
      have hsm := hsm.put (by decide) hFo43
      have hKK := hKK0.keep hS.2.1
      refine lv_iload_n hx hb dX5_claim_44 rfl (lv_at hl 0 rfl) ?_
      exact W.iret (v := (((V 6)) q)) hx hb hr (fun t ht hW9 => ⟨⟨_, rfl, by rw [ht]; exact ⟨_, _, F_43, Or.inr ⟨q, hq, rfl, Or.inr ⟨h_18, rfl, rfl, rfl⟩⟩, hW, hM, hsm⟩⟩, hS.F ht⟩) hS.2.2 dX5_claim_45
    · skip
      refine lv_if_ne (tgt := 30) hx hb dX5_claim_21 (by decide) (fun c_21 => absurd (by decide) c_21) (fun _ => ?_)
      refine lv_aload_n hx hb dX5_claim_24 rfl (lv_at hl 0 rfl) ?_
      refine lv_iconst (v := 2) hx hb dX5_claim_25 (by decide) ?_
      refine ck_cVw (As := [.int 2]) (rest := []) ⟨hx, hb, hml, hown, hts⟩ hKK (ct_X5_fails l G H ad N F_6 hW V L nc nr 0 hM 2) (cwV 1 hts gX5_claim_X5_fails rfl rfl rfl (by decide +kernel) ⟨Nat.le_of_ble_eq_true rfl, Nat.le_of_ble_eq_true rfl⟩) (ck_recv hK hW (hM.n 30 (by decide) (by decide)) hM.f30 rfl) rfl hl rfl (Nat.le_of_ble_eq_true rfl) dX5_claim_26 ⟨Nat.le_of_ble_eq_true rfl, Nat.le_of_ble_eq_true rfl⟩ hS (fun r_26 H locs h_26 hz_26 hS => ?_)
      have hKK := hKK0.keep hS.2.1
      obtain ⟨rfl, F_26, hW, hM, hs26⟩ := h_26
      have hsm := hsm.tr hs26
      exact W.iret (v := 0) hx hb hr (fun t ht hW9 => ⟨⟨_, rfl, by rw [ht]; exact ⟨_, _, F_26, Or.inr ⟨q, hq, rfl, Or.inl ⟨h_18, rfl, rfl⟩⟩, hW, hM, hsm⟩⟩, hS.F ht⟩) hS.2.2 dX5_claim_29
  · skip
    refine ck_cVw (As := [.int 0]) (rest := []) ⟨hx, hb, hml, hown, hts⟩ hKK (ct_X5_asks0 l G s.heap ad N F hW V L nc nr t hM) (cwV 1 hts gX5_claim_X5_asks rfl rfl rfl (by decide +kernel) ⟨Nat.le_of_ble_eq_true rfl, Nat.le_of_ble_eq_true rfl⟩) (ck_recv hK hW (hM.n 30 (by decide) (by decide)) hM.f30 rfl) rfl hl rfl (Nat.le_of_ble_eq_true rfl) dX5_claim_6 ⟨Nat.le_of_ble_eq_true rfl, Nat.le_of_ble_eq_true rfl⟩ hS (fun r_6 H locs h_6 hz_6 hS => ?_)
    have hKK := hKK0.keep hS.2.1
    obtain ⟨rfl, F_6, hW, hM, hs6⟩ := h_6
    have hsm := hsm.tr hs6
    refine lv_if_ne (tgt := 14) hx hb dX5_claim_9 (by decide) (fun c_9 => absurd (by decide) c_9) (fun _ => ?_)
    refine lv_iconst (v := 0) hx hb dX5_claim_12 (by decide) ?_
    exact W.iret (v := 0) hx hb hr (fun t ht hW9 => ⟨⟨_, rfl, by rw [ht]; exact ⟨_, _, F_6, Or.inl ⟨h_3, rfl, rfl⟩, hW, hM, hsm⟩⟩, hS.F ht⟩) hS.2.2 dX5_claim_13
def ck_cnt (V : Nat → Nat → Int32) (i : Nat) : Nat := (V 28 i).toNatClampNeg
def ck_mo (V : Nat → Nat → Int32) (x : Int32) (i : Nat) : Int32 := ck_mp V x i (ck_cnt V i)
/-- the reference's offers: how many, and that they are prefixes and prices -/
def ck_oM (V : Nat → Nat → Int32) : Prop := ∀ i, i < 4 → V 28 i = nI (ck_cnt V i) ∧ ck_cnt V i ≤ 10 ∧ ∀ k, k < ck_cnt V i → ck_rg 1 (V 29 (10 * i + k)) 99999 ∧ ck_rg 0 (V 30 (10 * i + k)) 10000
theorem ck_oM.p {V : Nat → Nat → Int32} (h : ck_oM V) {i : Nat} (hi : i < 4) : ∀ k, k < ck_cnt V i → 0 ≤ (V 29 (10 * i + k)).toInt := fun k hk => by have := ((h i hi).2.2 k hk).1.1; omega
def ck_RoffF (P : Nat → Int32) (a0 a1 k r : Int32) : Prop := (¬ (ck_ok a0 4 ∧ ck_isN a1) ∧ k = 1) ∨ (∃ i, i < 4 ∧ a0 = nI i ∧ ck_isN a1 ∧ ((P i = -1 ∧ k = 2) ∨ (¬ P i = -1 ∧ k = 0 ∧ r = P i)))
set_option maxHeartbeats 4000000 in
set_option maxRecDepth 100000 in
theorem ct_X5_offerFor (l : Launch) (G : ck_G) (H : Heap) (ad : Nat → Nat) (N : Nat → Prop) (F : Nat → va_E) (hW : ck_W G ad N F H) (V : Nat → Nat → Int32) (L : Nat → Nat → Int64) (nc nr : Nat) (t : Int32) (hM : ck_M G ad V L nc nr t N F) (hI : ck_I V nc nr) (hO : ck_oM V) (a0 a1 : Int32) : Met l yX5_offerFor wsX5_offerFor ({ frames := 2, cells := 0, slots := 0, locals := 46 }) (ck_P G H [.ref (ad 30), .int a0, .int a1]) (ck_Qi G (fun r H1 => ∃ t1 F1, ck_RoffF (ck_mo V a1) a0 a1 t1 r ∧ ck_W G ad N F1 H1 ∧ ck_M G ad V L nc nr t1 N F1 ∧ ck_sM F F1)) 0 0 (ck_A G) := by
  refine Met.ofW (cc := cX5_offerFor) (maxL := 4) (ret := (some .int)) (by decide) rfl ?_
  intro p e s m args below meth c s₁ B hml hv
  obtain ⟨rfl, hH, hKK⟩ := hv
  subst hH
  have hx := B.exec
  have hb := B.bytes
  have hr := B.returns
  have hts := atoms_spec (ws := wsX5_offerFor) B.pre
  have hown : s.vm.findClass RX5 = some m.cls := findClass_of_methodNamed B.named
  have hlocks := B.notSynchronized
  have hKK0 := hKK
  have hK := hKK.1.1
  have hS : va_S (ck_A G) s.heap s.heap [] := va_S.rf
  have hl := lv_entry ([.ref (ad 30), .int a0, .int a1]) (n := 4) (Nat.le_of_ble_eq_true rfl)
  rw [lg_entry_eq]
  generalize (lg_sl ([.ref (ad 30), .int a0, .int a1]) ++ List.replicate (4 - (lg_sl ([.ref (ad 30), .int a0, .int a1])).length) Slot.unset).toArray = ls at hl ⊢
  have hl : lv_has ls 4 [(0, .ref (ad 30)), (1, .int a0), (2, .int a1)] := hl
  have hsm : ck_sM F F := ck_sM.rf
  have hp7 := hI.hp7
  have hn0 := hI.hn0
  have hst := hI.hst
  refine lv_aload_n hx hb dX5_offerFor_0 rfl (lv_at hl 0 rfl) ?_
  refine lv_iload_n hx hb dX5_offerFor_1 rfl (lv_at hl 1 rfl) ?_
  refine lv_iconst (v := 0) hx hb dX5_offerFor_2 (by decide) ?_
  refine lv_iconst (v := 3) hx hb dX5_offerFor_3 (by decide) ?_
  refine ck_cSi (As := [.int a0, .int 0, .int 3]) (rest := [.ref (ad 30)]) ⟨hx, hb, hml, hown, hts⟩ hKK (ct_X5_in l G s.heap a0 0 3) (va_cwS 3 hts gX5_offerFor_X5_in rfl rfl rfl (by decide +kernel) ⟨Nat.le_of_ble_eq_true rfl, Nat.le_of_ble_eq_true rfl⟩) rfl hl rfl (Nat.le_of_ble_eq_true rfl) dX5_offerFor_4 ⟨Nat.le_of_ble_eq_true rfl, Nat.le_of_ble_eq_true rfl⟩ (fun r_4 h_4 => ?_)
  rcases h_4 with ⟨h_4, rfl⟩ | ⟨h_4, rfl⟩
  · skip
    refine lv_if_eq (tgt := 21) hx hb dX5_offerFor_7 (by decide) (fun c_7 => absurd c_7 (by decide)) (fun _ => ?_)
    refine lv_iload_n hx hb dX5_offerFor_10 rfl (lv_at hl 2 rfl) ?_
    refine ck_cSi (As := [.int a1]) (rest := [.ref (ad 30)]) ⟨hx, hb, hml, hown, hts⟩ hKK (ct_X5_isNumber l G s.heap a1) (va_cwS 1 hts gX5_offerFor_X5_isNumber rfl rfl rfl (by decide +kernel) ⟨Nat.le_of_ble_eq_true rfl, Nat.le_of_ble_eq_true rfl⟩) rfl hl rfl (Nat.le_of_ble_eq_true rfl) dX5_offerFor_11 ⟨Nat.le_of_ble_eq_true rfl, Nat.le_of_ble_eq_true rfl⟩ (fun r_11 h_11 => ?_)
    rcases h_11 with ⟨h_11, rfl⟩ | ⟨h_11, rfl⟩
    · skip
      refine lv_if_eq (tgt := 21) hx hb dX5_offerFor_14 (by decide) (fun c_14 => absurd c_14 (by decide)) (fun _ => ?_)
      refine lv_iconst (v := 1) hx hb dX5_offerFor_17 (by decide) ?_
      refine lv_goto (tgt := 22) hx hb dX5_offerFor_18 (by decide) ?_
      refine ck_cVw (As := [.int 1]) (rest := []) ⟨hx, hb, hml, hown, hts⟩ hKK (ct_X5_asks1 l G s.heap ad N F hW V L nc nr t hM) (cwV 1 hts gX5_offerFor_X5_asks rfl rfl rfl (by decide +kernel) ⟨Nat.le_of_ble_eq_true rfl, Nat.le_of_ble_eq_true rfl⟩) (ck_recv hK hW (hM.n 30 (by decide) (by decide)) hM.f30 rfl) rfl hl rfl (Nat.le_of_ble_eq_true rfl) dX5_offerFor_22 ⟨Nat.le_of_ble_eq_true rfl, Nat.le_of_ble_eq_true rfl⟩ hS (fun r_22 H locs h_22 hz_22 hS => ?_)
      have hKK := hKK0.keep hS.2.1
      obtain ⟨rfl, F_22, hW, hM, hs22⟩ := h_22
      have hsm := hsm.tr hs22
      refine lv_if_ne (tgt := 30) hx hb dX5_offerFor_25 (by decide) (fun _ => ?_) (fun c_25 => absurd c_25 (by decide))
      obtain ⟨q, hq, rfl⟩ := ck_in4 h_4
      refine lv_aload_n hx hb dX5_offerFor_30 rfl (lv_at hl 0 rfl) ?_
      refine lv_iload_n hx hb dX5_offerFor_31 rfl (lv_at hl 1 rfl) ?_
      refine lv_iload_n hx hb dX5_offerFor_32 rfl (lv_at hl 2 rfl) ?_
      refine ck_cVi (As := [.int (nI q), .int a1]) (rest := []) ⟨hx, hb, hml, hown, hts⟩ hKK (ct_X5_offerOf l G H ad N F_22 hW V L nc nr 0 hM q hq _ (hO q hq).1 (hO q hq).2.1 a1 (hO.p hq) (ck_isN_rg h_11)) (cwV 2 hts gX5_offerFor_X5_offerOf rfl rfl rfl (by decide +kernel) ⟨Nat.le_of_ble_eq_true rfl, Nat.le_of_ble_eq_true rfl⟩) (ck_recv hK hW (hM.n 30 (by decide) (by decide)) hM.f30 rfl) rfl hl rfl (Nat.le_of_ble_eq_true rfl) dX5_offerFor_33 ⟨Nat.le_of_ble_eq_true rfl, Nat.le_of_ble_eq_true rfl⟩ (fun r_33 h_33 => ?_)
      subst h_33
      refine lv_istore_n (lv' := [(3, .int (ck_mo V a1 q)), (0, .ref (ad 30)), (1, .int (nI q)), (2, .int a1)]) hx hb dX5_offerFor_36 rfl hl (by decide) rfl (fun ls hl => ?_)
      refine lv_iload_n hx hb dX5_offerFor_37 rfl (lv_at hl 0 rfl) ?_
      refine lv_iconst (v := (-1)) hx hb dX5_offerFor_38 (by decide) ?_
      refine lv_icmp_ne (tgt := 50) hx hb dX5_offerFor_39 (by decide) (fun c_39 => ?_) (fun c_39 => ?_)
      · skip
        refine lv_iload_n hx hb dX5_offerFor_50 rfl (lv_at hl 0 rfl) ?_
        exact W.iret (v := (ck_mo V a1 q)) hx hb hr (fun t ht hW9 => ⟨⟨_, rfl, by rw [ht]; exact ⟨_, F_22, Or.inr ⟨q, hq, rfl, h_11, Or.inr ⟨c_39, rfl, rfl⟩⟩, hW, hM, hsm⟩⟩, hS.F ht⟩) hS.2.2 dX5_offerFor_51
      · skip
        refine lv_aload_n hx hb dX5_offerFor_42 rfl (lv_at hl 1 rfl) ?_
        refine lv_iconst (v := 2) hx hb dX5_offerFor_43 (by decide) ?_
        refine ck_cVw (As := [.int 2]) (rest := []) ⟨hx, hb, hml, hown, hts⟩ hKK (ct_X5_fails l G H ad N F_22 hW V L nc nr 0 hM 2) (cwV 1 hts gX5_offerFor_X5_fails rfl rfl rfl (by decide +kernel) ⟨Nat.le_of_ble_eq_true rfl, Nat.le_of_ble_eq_true rfl⟩) (ck_recv hK hW (hM.n 30 (by decide) (by decide)) hM.f30 rfl) rfl hl rfl (Nat.le_of_ble_eq_true rfl) dX5_offerFor_44 ⟨Nat.le_of_ble_eq_true rfl, Nat.le_of_ble_eq_true rfl⟩ hS (fun r_44 H locs h_44 hz_44 hS => ?_)
        have hKK := hKK0.keep hS.2.1
        obtain ⟨rfl, F_44, hW, hM, hs44⟩ := h_44
        have hsm := hsm.tr hs44
        refine lv_goto (tgt := 51) hx hb dX5_offerFor_47 (by decide) ?_
        exact W.iret (v := 0) hx hb hr (fun t ht hW9 => ⟨⟨_, rfl, by rw [ht]; exact ⟨_, F_44, Or.inr ⟨q, hq, rfl, h_11, Or.inl ⟨c_39, rfl⟩⟩, hW, hM, hsm⟩⟩, hS.F ht⟩) hS.2.2 dX5_offerFor_51
    · skip
      refine lv_if_eq (tgt := 21) hx hb dX5_offerFor_14 (by decide) (fun _ => ?_) (fun c_14 => absurd (by decide) c_14)
      refine lv_iconst (v := 0) hx hb dX5_offerFor_21 (by decide) ?_
      refine ck_cVw (As := [.int 0]) (rest := []) ⟨hx, hb, hml, hown, hts⟩ hKK (ct_X5_asks0 l G s.heap ad N F hW V L nc nr t hM) (cwV 1 hts gX5_offerFor_X5_asks rfl rfl rfl (by decide +kernel) ⟨Nat.le_of_ble_eq_true rfl, Nat.le_of_ble_eq_true rfl⟩) (ck_recv hK hW (hM.n 30 (by decide) (by decide)) hM.f30 rfl) rfl hl rfl (Nat.le_of_ble_eq_true rfl) dX5_offerFor_22 ⟨Nat.le_of_ble_eq_true rfl, Nat.le_of_ble_eq_true rfl⟩ hS (fun r_22 H locs h_22 hz_22 hS => ?_)
      have hKK := hKK0.keep hS.2.1
      obtain ⟨rfl, F_22, hW, hM, hs22⟩ := h_22
      have hsm := hsm.tr hs22
      refine lv_if_ne (tgt := 30) hx hb dX5_offerFor_25 (by decide) (fun c_25 => absurd (by decide) c_25) (fun _ => ?_)
      refine lv_iconst (v := 0) hx hb dX5_offerFor_28 (by decide) ?_
      exact W.iret (v := 0) hx hb hr (fun t ht hW9 => ⟨⟨_, rfl, by rw [ht]; exact ⟨_, F_22, Or.inl ⟨fun z => h_11 z.2, rfl⟩, hW, hM, hsm⟩⟩, hS.F ht⟩) hS.2.2 dX5_offerFor_29
  · skip
    refine lv_if_eq (tgt := 21) hx hb dX5_offerFor_7 (by decide) (fun _ => ?_) (fun c_7 => absurd (by decide) c_7)
    refine lv_iconst (v := 0) hx hb dX5_offerFor_21 (by decide) ?_
    refine ck_cVw (As := [.int 0]) (rest := []) ⟨hx, hb, hml, hown, hts⟩ hKK (ct_X5_asks0 l G s.heap ad N F hW V L nc nr t hM) (cwV 1 hts gX5_offerFor_X5_asks rfl rfl rfl (by decide +kernel) ⟨Nat.le_of_ble_eq_true rfl, Nat.le_of_ble_eq_true rfl⟩) (ck_recv hK hW (hM.n 30 (by decide) (by decide)) hM.f30 rfl) rfl hl rfl (Nat.le_of_ble_eq_true rfl) dX5_offerFor_22 ⟨Nat.le_of_ble_eq_true rfl, Nat.le_of_ble_eq_true rfl⟩ hS (fun r_22 H locs h_22 hz_22 hS => ?_)
    have hKK := hKK0.keep hS.2.1
    obtain ⟨rfl, F_22, hW, hM, hs22⟩ := h_22
    have hsm := hsm.tr hs22
    refine lv_if_ne (tgt := 30) hx hb dX5_offerFor_25 (by decide) (fun c_25 => absurd (by decide) c_25) (fun _ => ?_)
    refine lv_iconst (v := 0) hx hb dX5_offerFor_28 (by decide) ?_
    exact W.iret (v := 0) hx hb hr (fun t ht hW9 => ⟨⟨_, rfl, by rw [ht]; exact ⟨_, F_22, Or.inl ⟨fun z => ck_nin4 h_4 z.1, rfl⟩, hW, hM, hsm⟩⟩, hS.F ht⟩) hS.2.2 dX5_offerFor_29
def ck_addR (V : Nat → Nat → Int32) (n : Nat) (a0 a1 a2 a3 a4 a5 : Int32) : Nat → Nat → Int32 := va_up (va_up (va_up (va_up (va_up (va_up V 7 (upd (V 7) n a0)) 8 (upd (V 8) n a1)) 9 (upd (V 9) n a2)) 10 (upd (V 10) n a3)) 11 (upd (V 11) n a4)) 12 (upd (V 12) n a5)
def ck_isR (a0 a1 a2 a3 a4 a5 : Int32) : Prop := ck_isP a0 ∧ ck_isD a1 ∧ (0 ≤ a2 ∧ a2 ≤ 10000) ∧ (1 ≤ a3 ∧ a3 ≤ 60) ∧ (0 ≤ a4 ∧ a4 ≤ 120) ∧ (0 ≤ a5 ∧ a5 ≤ 1000)
def ck_Radd (V : Nat → Nat → Int32) (nr : Nat) (a0 a1 a2 a3 a4 a5 k r : Int32) (V1 : Nat → Nat → Int32) (nr1 : Nat) : Prop := (¬ ck_isR a0 a1 a2 a3 a4 a5 ∧ k = 1 ∧ V1 = V ∧ nr1 = nr) ∨ (ck_isR a0 a1 a2 a3 a4 a5 ∧ nr = 30 ∧ k = 2 ∧ V1 = V ∧ nr1 = nr) ∨ (ck_isR a0 a1 a2 a3 a4 a5 ∧ nr < 30 ∧ k = 0 ∧ r = nI nr ∧ V1 = ck_addR V nr a0 a1 a2 a3 a4 a5 ∧ nr1 = nr + 1)
theorem ck_nr30 {n : Nat} (h : n ≤ 30) (c : nI n = 30) : n = 30 := (nI_eq (by omega) (by decide)).mp c
set_option maxHeartbeats 4000000 in
set_option maxRecDepth 100000 in
theorem ct_X5_addRate (l : Launch) (G : ck_G) (H : Heap) (ad : Nat → Nat) (N : Nat → Prop) (F : Nat → va_E) (hW : ck_W G ad N F H) (V : Nat → Nat → Int32) (L : Nat → Nat → Int64) (nc nr : Nat) (t : Int32) (hM : ck_M G ad V L nc nr t N F) (hI : ck_I V nc nr) (a0 a1 a2 a3 a4 a5 : Int32) : Met l yX5_addRate wsX5_addRate ({ frames := 2, cells := 0, slots := 0, locals := 42 }) (ck_P G H [.ref (ad 30), .int a0, .int a1, .int a2, .int a3, .int a4, .int a5]) (ck_Qi G (fun r H1 => ∃ t1 V1 nr1 F1, ck_Radd V nr a0 a1 a2 a3 a4 a5 t1 r V1 nr1 ∧ ck_W G ad N F1 H1 ∧ ck_M G ad V1 L nc nr1 t1 N F1 ∧ ck_sM F F1)) 0 0 (ck_A G) := by
  refine Met.ofW (cc := cX5_addRate) (maxL := 7) (ret := (some .int)) (by decide) rfl ?_
  intro p e s m args below meth c s₁ B hml hv
  obtain ⟨rfl, hH, hKK⟩ := hv
  subst hH
  have hx := B.exec
  have hb := B.bytes
  have hr := B.returns
  have hts := atoms_spec (ws := wsX5_addRate) B.pre
  have hown : s.vm.findClass RX5 = some m.cls := findClass_of_methodNamed B.named
  have hlocks := B.notSynchronized
  have hKK0 := hKK
  have hK := hKK.1.1
  have hS : va_S (ck_A G) s.heap s.heap [] := va_S.rf
  have hinX5 : ∀ w ∈ u_ws RX5 TX5 26, w ∈ wsX5_addRate := by decide +kernel
  have hl := lv_entry ([.ref (ad 30), .int a0, .int a1, .int a2, .int a3, .int a4, .int a5]) (n := 7) (Nat.le_of_ble_eq_true rfl)
  rw [lg_entry_eq]
  generalize (lg_sl ([.ref (ad 30), .int a0, .int a1, .int a2, .int a3, .int a4, .int a5]) ++ List.replicate (7 - (lg_sl ([.ref (ad 30), .int a0, .int a1, .int a2, .int a3, .int a4, .int a5])).length) Slot.unset).toArray = ls at hl ⊢
  have hl : lv_has ls 7 [(0, .ref (ad 30)), (1, .int a0), (2, .int a1), (3, .int a2), (4, .int a3), (5, .int a4), (6, .int a5)] := hl
  have hsm : ck_sM F F := ck_sM.rf
  have hp7 := hI.hp7
  have hn0 := hI.hn0
  have hst := hI.hst
  refine lv_aload_n hx hb dX5_addRate_0 rfl (lv_at hl 0 rfl) ?_
  refine lv_iload_n hx hb dX5_addRate_1 rfl (lv_at hl 1 rfl) ?_
  refine ck_cSi (As := [.int a0]) (rest := [.ref (ad 30)]) ⟨hx, hb, hml, hown, hts⟩ hKK (ct_X5_isPrefix l G s.heap a0) (va_cwS 1 hts gX5_addRate_X5_isPrefix rfl rfl rfl (by decide +kernel) ⟨Nat.le_of_ble_eq_true rfl, Nat.le_of_ble_eq_true rfl⟩) rfl hl rfl (Nat.le_of_ble_eq_true rfl) dX5_addRate_2 ⟨Nat.le_of_ble_eq_true rfl, Nat.le_of_ble_eq_true rfl⟩ (fun r_2 h_2 => ?_)
  rcases h_2 with ⟨h_2, rfl⟩ | ⟨h_2, rfl⟩
  · skip
    refine lv_if_eq (tgt := 68) hx hb dX5_addRate_5 (by decide) (fun c_5 => absurd c_5 (by decide)) (fun _ => ?_)
    refine lv_iload_n hx hb dX5_addRate_8 rfl (lv_at hl 2 rfl) ?_
    refine lv_iconst (v := 0) hx hb dX5_addRate_9 (by decide) ?_
    refine lv_sipush (v := 999) hx hb dX5_addRate_10 (by decide) ?_
    refine ck_cSi (As := [.int a1, .int 0, .int 999]) (rest := [.ref (ad 30)]) ⟨hx, hb, hml, hown, hts⟩ hKK (ct_X5_in l G s.heap a1 0 999) (va_cwS 3 hts gX5_addRate_X5_in rfl rfl rfl (by decide +kernel) ⟨Nat.le_of_ble_eq_true rfl, Nat.le_of_ble_eq_true rfl⟩) rfl hl rfl (Nat.le_of_ble_eq_true rfl) dX5_addRate_13 ⟨Nat.le_of_ble_eq_true rfl, Nat.le_of_ble_eq_true rfl⟩ (fun r_13 h_13 => ?_)
    rcases h_13 with ⟨h_13, rfl⟩ | ⟨h_13, rfl⟩
    · skip
      refine lv_if_eq (tgt := 68) hx hb dX5_addRate_16 (by decide) (fun c_16 => absurd c_16 (by decide)) (fun _ => ?_)
      refine lv_iload_n hx hb dX5_addRate_19 rfl (lv_at hl 3 rfl) ?_
      refine lv_iconst (v := 0) hx hb dX5_addRate_20 (by decide) ?_
      refine lv_sipush (v := 10000) hx hb dX5_addRate_21 (by decide) ?_
      refine ck_cSi (As := [.int a2, .int 0, .int 10000]) (rest := [.ref (ad 30)]) ⟨hx, hb, hml, hown, hts⟩ hKK (ct_X5_in l G s.heap a2 0 10000) (va_cwS 3 hts gX5_addRate_X5_in rfl rfl rfl (by decide +kernel) ⟨Nat.le_of_ble_eq_true rfl, Nat.le_of_ble_eq_true rfl⟩) rfl hl rfl (Nat.le_of_ble_eq_true rfl) dX5_addRate_24 ⟨Nat.le_of_ble_eq_true rfl, Nat.le_of_ble_eq_true rfl⟩ (fun r_24 h_24 => ?_)
      rcases h_24 with ⟨h_24, rfl⟩ | ⟨h_24, rfl⟩
      · skip
        refine lv_if_eq (tgt := 68) hx hb dX5_addRate_27 (by decide) (fun c_27 => absurd c_27 (by decide)) (fun _ => ?_)
        refine lv_iload hx hb dX5_addRate_30 (lv_at hl 4 rfl) ?_
        refine lv_iconst (v := 1) hx hb dX5_addRate_32 (by decide) ?_
        refine lv_bipush (v := 60) hx hb dX5_addRate_33 (by decide) ?_
        refine ck_cSi (As := [.int a3, .int 1, .int 60]) (rest := [.ref (ad 30)]) ⟨hx, hb, hml, hown, hts⟩ hKK (ct_X5_in l G s.heap a3 1 60) (va_cwS 3 hts gX5_addRate_X5_in rfl rfl rfl (by decide +kernel) ⟨Nat.le_of_ble_eq_true rfl, Nat.le_of_ble_eq_true rfl⟩) rfl hl rfl (Nat.le_of_ble_eq_true rfl) dX5_addRate_35 ⟨Nat.le_of_ble_eq_true rfl, Nat.le_of_ble_eq_true rfl⟩ (fun r_35 h_35 => ?_)
        rcases h_35 with ⟨h_35, rfl⟩ | ⟨h_35, rfl⟩
        · skip
          refine lv_if_eq (tgt := 68) hx hb dX5_addRate_38 (by decide) (fun c_38 => absurd c_38 (by decide)) (fun _ => ?_)
          refine lv_iload hx hb dX5_addRate_41 (lv_at hl 5 rfl) ?_
          refine lv_iconst (v := 0) hx hb dX5_addRate_43 (by decide) ?_
          refine lv_bipush (v := 120) hx hb dX5_addRate_44 (by decide) ?_
          refine ck_cSi (As := [.int a4, .int 0, .int 120]) (rest := [.ref (ad 30)]) ⟨hx, hb, hml, hown, hts⟩ hKK (ct_X5_in l G s.heap a4 0 120) (va_cwS 3 hts gX5_addRate_X5_in rfl rfl rfl (by decide +kernel) ⟨Nat.le_of_ble_eq_true rfl, Nat.le_of_ble_eq_true rfl⟩) rfl hl rfl (Nat.le_of_ble_eq_true rfl) dX5_addRate_46 ⟨Nat.le_of_ble_eq_true rfl, Nat.le_of_ble_eq_true rfl⟩ (fun r_46 h_46 => ?_)
          rcases h_46 with ⟨h_46, rfl⟩ | ⟨h_46, rfl⟩
          · skip
            refine lv_if_eq (tgt := 68) hx hb dX5_addRate_49 (by decide) (fun c_49 => absurd c_49 (by decide)) (fun _ => ?_)
            refine lv_iload hx hb dX5_addRate_52 (lv_at hl 6 rfl) ?_
            refine lv_iconst (v := 0) hx hb dX5_addRate_54 (by decide) ?_
            refine lv_sipush (v := 1000) hx hb dX5_addRate_55 (by decide) ?_
            refine ck_cSi (As := [.int a5, .int 0, .int 1000]) (rest := [.ref (ad 30)]) ⟨hx, hb, hml, hown, hts⟩ hKK (ct_X5_in l G s.heap a5 0 1000) (va_cwS 3 hts gX5_addRate_X5_in rfl rfl rfl (by decide +kernel) ⟨Nat.le_of_ble_eq_true rfl, Nat.le_of_ble_eq_true rfl⟩) rfl hl rfl (Nat.le_of_ble_eq_true rfl) dX5_addRate_58 ⟨Nat.le_of_ble_eq_true rfl, Nat.le_of_ble_eq_true rfl⟩ (fun r_58 h_58 => ?_)
            rcases h_58 with ⟨h_58, rfl⟩ | ⟨h_58, rfl⟩
            · skip
              refine lv_if_eq (tgt := 68) hx hb dX5_addRate_61 (by decide) (fun c_61 => absurd c_61 (by decide)) (fun _ => ?_)
              refine lv_iconst (v := 1) hx hb dX5_addRate_64 (by decide) ?_
              refine lv_goto (tgt := 69) hx hb dX5_addRate_65 (by decide) ?_
              refine ck_cVw (As := [.int 1]) (rest := []) ⟨hx, hb, hml, hown, hts⟩ hKK (ct_X5_asks1 l G s.heap ad N F hW V L nc nr t hM) (cwV 1 hts gX5_addRate_X5_asks rfl rfl rfl (by decide +kernel) ⟨Nat.le_of_ble_eq_true rfl, Nat.le_of_ble_eq_true rfl⟩) (ck_recv hK hW (hM.n 30 (by decide) (by decide)) hM.f30 rfl) rfl hl rfl (Nat.le_of_ble_eq_true rfl) dX5_addRate_69 ⟨Nat.le_of_ble_eq_true rfl, Nat.le_of_ble_eq_true rfl⟩ hS (fun r_69 H locs h_69 hz_69 hS => ?_)
              have hKK := hKK0.keep hS.2.1
              obtain ⟨rfl, F_69, hW, hM, hs69⟩ := h_69
              have hsm := hsm.tr hs69
              refine lv_if_ne (tgt := 77) hx hb dX5_addRate_72 (by decide) (fun _ => ?_) (fun c_72 => absurd c_72 (by decide))
              refine lv_aload_n hx hb dX5_addRate_77 rfl (lv_at hl 0 rfl) ?_
              refine ck_get (v := .int (nI nr)) hx hb hts hinX5 hown hK hW (hM.n 30 (by decide) (by decide)) hM.f30 rfl 15 (by decide) (hts _ (List.mem_of_getElem? (i := 1) rfl)) rfl rfl dX5_addRate_78 ?_
              refine lv_bipush (v := 30) hx hb dX5_addRate_81 (by decide) ?_
              refine lv_icmp_ne (tgt := 92) hx hb dX5_addRate_83 (by decide) (fun c_83 => ?_) (fun c_83 => ?_)
              · skip
                have hlt : nr < 30 := Nat.lt_of_le_of_ne hM.nr (fun z => c_83 (by rw [z]; rfl))
                refine lv_aload_n hx hb dX5_addRate_92 rfl (lv_at hl 0 rfl) ?_
                refine ck_get (v := .ref (ad 43)) hx hb hts hinX5 hown hK hW (hM.n 30 (by decide) (by decide)) hM.f30 rfl 16 (by decide) (hts _ (List.mem_of_getElem? (i := 2) rfl)) rfl rfl dX5_addRate_93 ?_
                refine lv_aload_n hx hb dX5_addRate_96 rfl (lv_at hl 0 rfl) ?_
                refine ck_get (v := .int (nI nr)) hx hb hts hinX5 hown hK hW (hM.n 30 (by decide) (by decide)) hM.f30 rfl 15 (by decide) (hts _ (List.mem_of_getElem? (i := 1) rfl)) rfl rfl dX5_addRate_97 ?_
                refine lv_iload_n hx hb dX5_addRate_100 rfl (lv_at hl 1 rfl) ?_
                refine ck_iast hx hb hK hW hS (hM.n 43 (by decide) (by decide)) hM.f43 nr (rfl) (by omega) (by decide) dX5_addRate_101 (fun H locs hW hS hz101 => ?_)
                obtain ⟨F_101, hFe101, hFo101, hW⟩ := ck_name hW
                have hM := hM.set43 hFe101 hFo101
                have hsm := hsm.put (by decide) hFo101
                have hKK := hKK0.keep hS.2.1
                refine lv_aload_n hx hb dX5_addRate_102 rfl (lv_at hl 0 rfl) ?_
                refine ck_get (v := .ref (ad 44)) hx hb hts hinX5 hown hK hW (hM.n 30 (by decide) (by decide)) hM.f30 rfl 17 (by decide) (hts _ (List.mem_of_getElem? (i := 3) rfl)) rfl rfl dX5_addRate_103 ?_
                refine lv_aload_n hx hb dX5_addRate_106 rfl (lv_at hl 0 rfl) ?_
                refine ck_get (v := .int (nI nr)) hx hb hts hinX5 hown hK hW (hM.n 30 (by decide) (by decide)) hM.f30 rfl 15 (by decide) (hts _ (List.mem_of_getElem? (i := 1) rfl)) rfl rfl dX5_addRate_107 ?_
                refine lv_iload_n hx hb dX5_addRate_110 rfl (lv_at hl 2 rfl) ?_
                refine ck_iast hx hb hK hW hS (hM.n 44 (by decide) (by decide)) hM.f44 nr (rfl) (by omega) (by decide) dX5_addRate_111 (fun H locs hW hS hz111 => ?_)
                obtain ⟨F_111, hFe111, hFo111, hW⟩ := ck_name hW
                have hM := hM.set44 hFe111 hFo111
                have hsm := hsm.put (by decide) hFo111
                have hKK := hKK0.keep hS.2.1
                refine lv_aload_n hx hb dX5_addRate_112 rfl (lv_at hl 0 rfl) ?_
                refine ck_get (v := .ref (ad 45)) hx hb hts hinX5 hown hK hW (hM.n 30 (by decide) (by decide)) hM.f30 rfl 18 (by decide) (hts _ (List.mem_of_getElem? (i := 4) rfl)) rfl rfl dX5_addRate_113 ?_
                refine lv_aload_n hx hb dX5_addRate_116 rfl (lv_at hl 0 rfl) ?_
                refine ck_get (v := .int (nI nr)) hx hb hts hinX5 hown hK hW (hM.n 30 (by decide) (by decide)) hM.f30 rfl 15 (by decide) (hts _ (List.mem_of_getElem? (i := 1) rfl)) rfl rfl dX5_addRate_117 ?_
                refine lv_iload_n hx hb dX5_addRate_120 rfl (lv_at hl 3 rfl) ?_
                refine ck_iast hx hb hK hW hS (hM.n 45 (by decide) (by decide)) hM.f45 nr (rfl) (by omega) (by decide) dX5_addRate_121 (fun H locs hW hS hz121 => ?_)
                obtain ⟨F_121, hFe121, hFo121, hW⟩ := ck_name hW
                have hM := hM.set45 hFe121 hFo121
                have hsm := hsm.put (by decide) hFo121
                have hKK := hKK0.keep hS.2.1
                refine lv_aload_n hx hb dX5_addRate_122 rfl (lv_at hl 0 rfl) ?_
                refine ck_get (v := .ref (ad 46)) hx hb hts hinX5 hown hK hW (hM.n 30 (by decide) (by decide)) hM.f30 rfl 19 (by decide) (hts _ (List.mem_of_getElem? (i := 5) rfl)) rfl rfl dX5_addRate_123 ?_
                refine lv_aload_n hx hb dX5_addRate_126 rfl (lv_at hl 0 rfl) ?_
                refine ck_get (v := .int (nI nr)) hx hb hts hinX5 hown hK hW (hM.n 30 (by decide) (by decide)) hM.f30 rfl 15 (by decide) (hts _ (List.mem_of_getElem? (i := 1) rfl)) rfl rfl dX5_addRate_127 ?_
                refine lv_iload hx hb dX5_addRate_130 (lv_at hl 4 rfl) ?_
                refine ck_iast hx hb hK hW hS (hM.n 46 (by decide) (by decide)) hM.f46 nr (rfl) (by omega) (by decide) dX5_addRate_132 (fun H locs hW hS hz132 => ?_)
                obtain ⟨F_132, hFe132, hFo132, hW⟩ := ck_name hW
                have hM := hM.set46 hFe132 hFo132
                have hsm := hsm.put (by decide) hFo132
                have hKK := hKK0.keep hS.2.1
                refine lv_aload_n hx hb dX5_addRate_133 rfl (lv_at hl 0 rfl) ?_
                refine ck_get (v := .ref (ad 47)) hx hb hts hinX5 hown hK hW (hM.n 30 (by decide) (by decide)) hM.f30 rfl 20 (by decide) (hts _ (List.mem_of_getElem? (i := 6) rfl)) rfl rfl dX5_addRate_134 ?_
                refine lv_aload_n hx hb dX5_addRate_137 rfl (lv_at hl 0 rfl) ?_
                refine ck_get (v := .int (nI nr)) hx hb hts hinX5 hown hK hW (hM.n 30 (by decide) (by decide)) hM.f30 rfl 15 (by decide) (hts _ (List.mem_of_getElem? (i := 1) rfl)) rfl rfl dX5_addRate_138 ?_
                refine lv_iload hx hb dX5_addRate_141 (lv_at hl 5 rfl) ?_
                refine ck_iast hx hb hK hW hS (hM.n 47 (by decide) (by decide)) hM.f47 nr (rfl) (by omega) (by decide) dX5_addRate_143 (fun H locs hW hS hz143 => ?_)
                obtain ⟨F_143, hFe143, hFo143, hW⟩ := ck_name hW
                have hM := hM.set47 hFe143 hFo143
                have hsm := hsm.put (by decide) hFo143
                have hKK := hKK0.keep hS.2.1
                refine lv_aload_n hx hb dX5_addRate_144 rfl (lv_at hl 0 rfl) ?_
                refine ck_get (v := .ref (ad 48)) hx hb hts hinX5 hown hK hW (hM.n 30 (by decide) (by decide)) hM.f30 rfl 21 (by decide) (hts _ (List.mem_of_getElem? (i := 7) rfl)) rfl rfl dX5_addRate_145 ?_
                refine lv_aload_n hx hb dX5_addRate_148 rfl (lv_at hl 0 rfl) ?_
                refine ck_get (v := .int (nI nr)) hx hb hts hinX5 hown hK hW (hM.n 30 (by decide) (by decide)) hM.f30 rfl 15 (by decide) (hts _ (List.mem_of_getElem? (i := 1) rfl)) rfl rfl dX5_addRate_149 ?_
                refine lv_iload hx hb dX5_addRate_152 (lv_at hl 6 rfl) ?_
                refine ck_iast hx hb hK hW hS (hM.n 48 (by decide) (by decide)) hM.f48 nr (rfl) (by omega) (by decide) dX5_addRate_154 (fun H locs hW hS hz154 => ?_)
                obtain ⟨F_154, hFe154, hFo154, hW⟩ := ck_name hW
                have hM := hM.set48 hFe154 hFo154
                have hsm := hsm.put (by decide) hFo154
                have hKK := hKK0.keep hS.2.1
                refine lv_aload_n hx hb dX5_addRate_155 rfl (lv_at hl 0 rfl) ?_
                refine lv_dup hx hb dX5_addRate_156 rfl ?_
                refine ck_get (v := .int (nI nr)) hx hb hts hinX5 hown hK hW (hM.n 30 (by decide) (by decide)) hM.f30 rfl 15 (by decide) (hts _ (List.mem_of_getElem? (i := 1) rfl)) rfl rfl dX5_addRate_157 ?_
                refine lv_iconst (v := 1) hx hb dX5_addRate_160 (by decide) ?_
                refine lv_iadd hx hb dX5_addRate_161 ?_
                refine lv_topi (fun y9 ey9 => ?_)
                have ey8 : y9 = nI (nr + 1) := ey9.trans (nI_1 nr)
                subst ey8
                refine ck_put (v := .int (nI (nr + 1))) (ty := .int) hx hb hts hinX5 tyX5 tyX5_ok nmX5 hown hK hW hS (hM.n 30 (by decide) (by decide)) hM.f30 rfl 15 (by decide) (hts _ (List.mem_of_getElem? (i := 1) rfl)) rfl rfl (by decide +kernel) rfl rfl (Nat.le_of_ble_eq_true rfl) dX5_addRate_162 (fun H locs hW hS hz162 => ?_)
                obtain ⟨F_162, hFe162, hFo162, hW⟩ := ck_name hW
                have hM := hM.set30 (nr1 := nr + 1) hFe162 hFo162 hM.nc (by omega) rfl rfl
                have hsm := hsm.put (by decide) hFo162
                have hKK := hKK0.keep hS.2.1
                refine lv_aload_n hx hb dX5_addRate_165 rfl (lv_at hl 0 rfl) ?_
                refine ck_get (v := .int (nI (nr + 1))) hx hb hts hinX5 hown hK hW (hM.n 30 (by decide) (by decide)) hM.f30 rfl 15 (by decide) (hts _ (List.mem_of_getElem? (i := 1) rfl)) rfl rfl dX5_addRate_166 ?_
                refine lv_iconst (v := 1) hx hb dX5_addRate_169 (by decide) ?_
                refine lv_isub hx hb dX5_addRate_170 ?_
                exact W.iret (v := (((nI (nr + 1))) - 1)) hx hb hr (fun t ht hW9 => ⟨⟨_, rfl, by rw [ht]; exact ⟨_, _, _, F_162, Or.inr (Or.inr ⟨⟨h_2, h_13, h_24, h_35, h_46, h_58⟩, hlt, rfl, nI_pred nr, rfl, rfl⟩), hW, hM, hsm⟩⟩, hS.F ht⟩) hS.2.2 dX5_addRate_171
              · skip
                refine lv_aload_n hx hb dX5_addRate_86 rfl (lv_at hl 0 rfl) ?_
                refine lv_iconst (v := 2) hx hb dX5_addRate_87 (by decide) ?_
                refine ck_cVw (As := [.int 2]) (rest := []) ⟨hx, hb, hml, hown, hts⟩ hKK (ct_X5_fails l G H ad N F_69 hW V L nc nr 0 hM 2) (cwV 1 hts gX5_addRate_X5_fails rfl rfl rfl (by decide +kernel) ⟨Nat.le_of_ble_eq_true rfl, Nat.le_of_ble_eq_true rfl⟩) (ck_recv hK hW (hM.n 30 (by decide) (by decide)) hM.f30 rfl) rfl hl rfl (Nat.le_of_ble_eq_true rfl) dX5_addRate_88 ⟨Nat.le_of_ble_eq_true rfl, Nat.le_of_ble_eq_true rfl⟩ hS (fun r_88 H locs h_88 hz_88 hS => ?_)
                have hKK := hKK0.keep hS.2.1
                obtain ⟨rfl, F_88, hW, hM, hs88⟩ := h_88
                have hsm := hsm.tr hs88
                exact W.iret (v := 0) hx hb hr (fun t ht hW9 => ⟨⟨_, rfl, by rw [ht]; exact ⟨_, _, _, F_88, Or.inr (Or.inl ⟨⟨h_2, h_13, h_24, h_35, h_46, h_58⟩, ck_nr30 hM.nr c_83, rfl, rfl, rfl⟩), hW, hM, hsm⟩⟩, hS.F ht⟩) hS.2.2 dX5_addRate_91
            · skip
              refine lv_if_eq (tgt := 68) hx hb dX5_addRate_61 (by decide) (fun _ => ?_) (fun c_61 => absurd (by decide) c_61)
              refine lv_iconst (v := 0) hx hb dX5_addRate_68 (by decide) ?_
              refine ck_cVw (As := [.int 0]) (rest := []) ⟨hx, hb, hml, hown, hts⟩ hKK (ct_X5_asks0 l G s.heap ad N F hW V L nc nr t hM) (cwV 1 hts gX5_addRate_X5_asks rfl rfl rfl (by decide +kernel) ⟨Nat.le_of_ble_eq_true rfl, Nat.le_of_ble_eq_true rfl⟩) (ck_recv hK hW (hM.n 30 (by decide) (by decide)) hM.f30 rfl) rfl hl rfl (Nat.le_of_ble_eq_true rfl) dX5_addRate_69 ⟨Nat.le_of_ble_eq_true rfl, Nat.le_of_ble_eq_true rfl⟩ hS (fun r_69 H locs h_69 hz_69 hS => ?_)
              have hKK := hKK0.keep hS.2.1
              obtain ⟨rfl, F_69, hW, hM, hs69⟩ := h_69
              have hsm := hsm.tr hs69
              refine lv_if_ne (tgt := 77) hx hb dX5_addRate_72 (by decide) (fun c_72 => absurd (by decide) c_72) (fun _ => ?_)
              refine lv_iconst (v := 0) hx hb dX5_addRate_75 (by decide) ?_
              exact W.iret (v := 0) hx hb hr (fun t ht hW9 => ⟨⟨_, rfl, by rw [ht]; exact ⟨_, _, _, F_69, Or.inl ⟨fun z => h_58 z.2.2.2.2.2, rfl, rfl, rfl⟩, hW, hM, hsm⟩⟩, hS.F ht⟩) hS.2.2 dX5_addRate_76
          · skip
            refine lv_if_eq (tgt := 68) hx hb dX5_addRate_49 (by decide) (fun _ => ?_) (fun c_49 => absurd (by decide) c_49)
            refine lv_iconst (v := 0) hx hb dX5_addRate_68 (by decide) ?_
            refine ck_cVw (As := [.int 0]) (rest := []) ⟨hx, hb, hml, hown, hts⟩ hKK (ct_X5_asks0 l G s.heap ad N F hW V L nc nr t hM) (cwV 1 hts gX5_addRate_X5_asks rfl rfl rfl (by decide +kernel) ⟨Nat.le_of_ble_eq_true rfl, Nat.le_of_ble_eq_true rfl⟩) (ck_recv hK hW (hM.n 30 (by decide) (by decide)) hM.f30 rfl) rfl hl rfl (Nat.le_of_ble_eq_true rfl) dX5_addRate_69 ⟨Nat.le_of_ble_eq_true rfl, Nat.le_of_ble_eq_true rfl⟩ hS (fun r_69 H locs h_69 hz_69 hS => ?_)
            have hKK := hKK0.keep hS.2.1
            obtain ⟨rfl, F_69, hW, hM, hs69⟩ := h_69
            have hsm := hsm.tr hs69
            refine lv_if_ne (tgt := 77) hx hb dX5_addRate_72 (by decide) (fun c_72 => absurd (by decide) c_72) (fun _ => ?_)
            refine lv_iconst (v := 0) hx hb dX5_addRate_75 (by decide) ?_
            exact W.iret (v := 0) hx hb hr (fun t ht hW9 => ⟨⟨_, rfl, by rw [ht]; exact ⟨_, _, _, F_69, Or.inl ⟨fun z => h_46 z.2.2.2.2.1, rfl, rfl, rfl⟩, hW, hM, hsm⟩⟩, hS.F ht⟩) hS.2.2 dX5_addRate_76
        · skip
          refine lv_if_eq (tgt := 68) hx hb dX5_addRate_38 (by decide) (fun _ => ?_) (fun c_38 => absurd (by decide) c_38)
          refine lv_iconst (v := 0) hx hb dX5_addRate_68 (by decide) ?_
          refine ck_cVw (As := [.int 0]) (rest := []) ⟨hx, hb, hml, hown, hts⟩ hKK (ct_X5_asks0 l G s.heap ad N F hW V L nc nr t hM) (cwV 1 hts gX5_addRate_X5_asks rfl rfl rfl (by decide +kernel) ⟨Nat.le_of_ble_eq_true rfl, Nat.le_of_ble_eq_true rfl⟩) (ck_recv hK hW (hM.n 30 (by decide) (by decide)) hM.f30 rfl) rfl hl rfl (Nat.le_of_ble_eq_true rfl) dX5_addRate_69 ⟨Nat.le_of_ble_eq_true rfl, Nat.le_of_ble_eq_true rfl⟩ hS (fun r_69 H locs h_69 hz_69 hS => ?_)
          have hKK := hKK0.keep hS.2.1
          obtain ⟨rfl, F_69, hW, hM, hs69⟩ := h_69
          have hsm := hsm.tr hs69
          refine lv_if_ne (tgt := 77) hx hb dX5_addRate_72 (by decide) (fun c_72 => absurd (by decide) c_72) (fun _ => ?_)
          refine lv_iconst (v := 0) hx hb dX5_addRate_75 (by decide) ?_
          exact W.iret (v := 0) hx hb hr (fun t ht hW9 => ⟨⟨_, rfl, by rw [ht]; exact ⟨_, _, _, F_69, Or.inl ⟨fun z => h_35 z.2.2.2.1, rfl, rfl, rfl⟩, hW, hM, hsm⟩⟩, hS.F ht⟩) hS.2.2 dX5_addRate_76
      · skip
        refine lv_if_eq (tgt := 68) hx hb dX5_addRate_27 (by decide) (fun _ => ?_) (fun c_27 => absurd (by decide) c_27)
        refine lv_iconst (v := 0) hx hb dX5_addRate_68 (by decide) ?_
        refine ck_cVw (As := [.int 0]) (rest := []) ⟨hx, hb, hml, hown, hts⟩ hKK (ct_X5_asks0 l G s.heap ad N F hW V L nc nr t hM) (cwV 1 hts gX5_addRate_X5_asks rfl rfl rfl (by decide +kernel) ⟨Nat.le_of_ble_eq_true rfl, Nat.le_of_ble_eq_true rfl⟩) (ck_recv hK hW (hM.n 30 (by decide) (by decide)) hM.f30 rfl) rfl hl rfl (Nat.le_of_ble_eq_true rfl) dX5_addRate_69 ⟨Nat.le_of_ble_eq_true rfl, Nat.le_of_ble_eq_true rfl⟩ hS (fun r_69 H locs h_69 hz_69 hS => ?_)
        have hKK := hKK0.keep hS.2.1
        obtain ⟨rfl, F_69, hW, hM, hs69⟩ := h_69
        have hsm := hsm.tr hs69
        refine lv_if_ne (tgt := 77) hx hb dX5_addRate_72 (by decide) (fun c_72 => absurd (by decide) c_72) (fun _ => ?_)
        refine lv_iconst (v := 0) hx hb dX5_addRate_75 (by decide) ?_
        exact W.iret (v := 0) hx hb hr (fun t ht hW9 => ⟨⟨_, rfl, by rw [ht]; exact ⟨_, _, _, F_69, Or.inl ⟨fun z => h_24 z.2.2.1, rfl, rfl, rfl⟩, hW, hM, hsm⟩⟩, hS.F ht⟩) hS.2.2 dX5_addRate_76
    · skip
      refine lv_if_eq (tgt := 68) hx hb dX5_addRate_16 (by decide) (fun _ => ?_) (fun c_16 => absurd (by decide) c_16)
      refine lv_iconst (v := 0) hx hb dX5_addRate_68 (by decide) ?_
      refine ck_cVw (As := [.int 0]) (rest := []) ⟨hx, hb, hml, hown, hts⟩ hKK (ct_X5_asks0 l G s.heap ad N F hW V L nc nr t hM) (cwV 1 hts gX5_addRate_X5_asks rfl rfl rfl (by decide +kernel) ⟨Nat.le_of_ble_eq_true rfl, Nat.le_of_ble_eq_true rfl⟩) (ck_recv hK hW (hM.n 30 (by decide) (by decide)) hM.f30 rfl) rfl hl rfl (Nat.le_of_ble_eq_true rfl) dX5_addRate_69 ⟨Nat.le_of_ble_eq_true rfl, Nat.le_of_ble_eq_true rfl⟩ hS (fun r_69 H locs h_69 hz_69 hS => ?_)
      have hKK := hKK0.keep hS.2.1
      obtain ⟨rfl, F_69, hW, hM, hs69⟩ := h_69
      have hsm := hsm.tr hs69
      refine lv_if_ne (tgt := 77) hx hb dX5_addRate_72 (by decide) (fun c_72 => absurd (by decide) c_72) (fun _ => ?_)
      refine lv_iconst (v := 0) hx hb dX5_addRate_75 (by decide) ?_
      exact W.iret (v := 0) hx hb hr (fun t ht hW9 => ⟨⟨_, rfl, by rw [ht]; exact ⟨_, _, _, F_69, Or.inl ⟨fun z => h_13 z.2.1, rfl, rfl, rfl⟩, hW, hM, hsm⟩⟩, hS.F ht⟩) hS.2.2 dX5_addRate_76
  · skip
    refine lv_if_eq (tgt := 68) hx hb dX5_addRate_5 (by decide) (fun _ => ?_) (fun c_5 => absurd (by decide) c_5)
    refine lv_iconst (v := 0) hx hb dX5_addRate_68 (by decide) ?_
    refine ck_cVw (As := [.int 0]) (rest := []) ⟨hx, hb, hml, hown, hts⟩ hKK (ct_X5_asks0 l G s.heap ad N F hW V L nc nr t hM) (cwV 1 hts gX5_addRate_X5_asks rfl rfl rfl (by decide +kernel) ⟨Nat.le_of_ble_eq_true rfl, Nat.le_of_ble_eq_true rfl⟩) (ck_recv hK hW (hM.n 30 (by decide) (by decide)) hM.f30 rfl) rfl hl rfl (Nat.le_of_ble_eq_true rfl) dX5_addRate_69 ⟨Nat.le_of_ble_eq_true rfl, Nat.le_of_ble_eq_true rfl⟩ hS (fun r_69 H locs h_69 hz_69 hS => ?_)
    have hKK := hKK0.keep hS.2.1
    obtain ⟨rfl, F_69, hW, hM, hs69⟩ := h_69
    have hsm := hsm.tr hs69
    refine lv_if_ne (tgt := 77) hx hb dX5_addRate_72 (by decide) (fun c_72 => absurd (by decide) c_72) (fun _ => ?_)
    refine lv_iconst (v := 0) hx hb dX5_addRate_75 (by decide) ?_
    exact W.iret (v := 0) hx hb hr (fun t ht hW9 => ⟨⟨_, rfl, by rw [ht]; exact ⟨_, _, _, F_69, Or.inl ⟨fun z => h_2 z.1, rfl, rfl, rfl⟩, hW, hM, hsm⟩⟩, hS.F ht⟩) hS.2.2 dX5_addRate_76
theorem ck_best_c {V W : Nat → Nat → Int32} (h7 : W 7 = V 7) (h8 : W 8 = V 8) (x d : Int32) : ∀ n, ck_best W x d n = ck_best V x d n
  | 0 => rfl
  | n + 1 => by
    have e : ∀ o, ck_over W n o = ck_over V n o := fun o => by cases o <;> simp [ck_over, h7, h8]
    simp only [ck_best, ck_best_c h7 h8 x d n, e, h7, h8]
theorem ck_now_c {V W : Nat → Nat → Int32} (h0 : W 0 = V 0) (h1 : W 1 = V 1) (h4 : W 4 = V 4) (h : ∀ i, 7 ≤ i → i ≤ 12 → W i = V i) (nr k : Nat) : ck_now W nr k = ck_now V nr k := by
  simp only [ck_now, ck_best_c (h 7 (by decide) (by decide)) (h 8 (by decide) (by decide)), h0, h1, h4, h 9 (by decide) (by decide), h 10 (by decide) (by decide), h 11 (by decide) (by decide), h 12 (by decide) (by decide)]
theorem ck_now_5 (V : Nat → Nat → Int32) (g : Nat → Int32) (nr k : Nat) : ck_now (va_up V 5 g) nr k = ck_now V nr k :=
  ck_now_c (va_up_ne _ _ (by decide)) (va_up_ne _ _ (by decide)) (va_up_ne _ _ (by decide)) (fun i h1 h2 => va_up_ne _ _ (by omega)) nr k
def ck_bkd (V : Nat → Nat → Int32) (nr n : Nat) : Nat → Int32 := fun k => if k < n ∧ V 5 k = -1 then ck_now V nr k else V 5 k
def ck_bcn (V : Nat → Nat → Int32) (nr : Nat) : Nat → Int32
  | 0 => 0
  | k + 1 => if V 5 k = -1 ∧ ¬ ck_now V nr k = -1 then ck_bcn V nr k + 1 else ck_bcn V nr k
theorem ck_bkd_0 (V : Nat → Nat → Int32) (nr : Nat) : ck_bkd V nr 0 = V 5 := by funext k; simp [ck_bkd]
theorem ck_bkd_at (V : Nat → Nat → Int32) (nr k : Nat) : ck_bkd V nr k k = V 5 k := by simp [ck_bkd]
theorem ck_bkd_no {V : Nat → Nat → Int32} {nr k : Nat} (h : ¬ V 5 k = -1) : ck_bkd V nr (k + 1) = ck_bkd V nr k := by
  funext j; simp only [ck_bkd]
  by_cases e : j = k
  · subst e; simp [h]
  · simp only [show (j < k + 1) = (j < k) by simp; omega]
theorem ck_bkd_yes {V : Nat → Nat → Int32} {nr k : Nat} (h : V 5 k = -1) : upd (ck_bkd V nr k) k (ck_now V nr k) = ck_bkd V nr (k + 1) := by
  funext j; simp only [ck_bkd, upd]
  by_cases e : j = k
  · subst e; simp [h]
  · simp only [if_neg e, show (j < k + 1) = (j < k) by simp; omega]
theorem ck_up_self (V : Nat → Nat → Int32) (i : Nat) : va_up V i (V i) = V := by funext j; by_cases h : j = i <;> simp [va_up, h]
set_option maxHeartbeats 4000000 in
set_option maxRecDepth 100000 in
theorem ct_X5_book (l : Launch) (G : ck_G) (H : Heap) (ad : Nat → Nat) (N : Nat → Prop) (F : Nat → va_E) (hW : ck_W G ad N F H) (V : Nat → Nat → Int32) (L : Nat → Nat → Int64) (nc nr : Nat) (t : Int32) (hM : ck_M G ad V L nc nr t N F) (hI : ck_I V nc nr) : Met l yX5_book wsX5_book ({ frames := 3, cells := 0, slots := 0, locals := 71 }) (ck_P G H [.ref (ad 30)]) (ck_Qi G (fun r H1 => ∃ t1 V1 F1, (t1 = 0 ∧ r = ck_bcn V nr nc ∧ V1 = (va_up V 5 (ck_bkd V nr nc))) ∧ ck_W G ad N F1 H1 ∧ ck_M G ad V1 L nc nr t1 N F1 ∧ ck_sM F F1)) 0 0 (ck_A G) := by
  refine Met.ofW (cc := cX5_book) (maxL := 3) (ret := (some .int)) (by decide) rfl ?_
  intro p e s m args below meth c s₁ B hml hv
  obtain ⟨rfl, hH, hKK⟩ := hv
  subst hH
  have hx := B.exec
  have hb := B.bytes
  have hr := B.returns
  have hts := atoms_spec (ws := wsX5_book) B.pre
  have hown : s.vm.findClass RX5 = some m.cls := findClass_of_methodNamed B.named
  have hlocks := B.notSynchronized
  have hKK0 := hKK
  have hK := hKK.1.1
  have hS : va_S (ck_A G) s.heap s.heap [] := va_S.rf
  have hinX5 : ∀ w ∈ u_ws RX5 TX5 26, w ∈ wsX5_book := by decide +kernel
  have hl := lv_entry ([.ref (ad 30)]) (n := 3) (Nat.le_of_ble_eq_true rfl)
  rw [lg_entry_eq]
  generalize (lg_sl ([.ref (ad 30)]) ++ List.replicate (3 - (lg_sl ([.ref (ad 30)])).length) Slot.unset).toArray = ls at hl ⊢
  have hl : lv_has ls 3 [(0, .ref (ad 30))] := hl
  have hsm : ck_sM F F := ck_sM.rf
  have hp7 := hI.hp7
  have hn0 := hI.hn0
  have hst := hI.hst
  refine lv_aload_n hx hb dX5_book_0 rfl (lv_at hl 0 rfl) ?_
  refine lv_iconst (v := 0) hx hb dX5_book_1 (by decide) ?_
  refine ck_put (v := .int 0) (ty := .int) hx hb hts hinX5 tyX5 tyX5_ok nmX5 hown hK hW hS (hM.n 30 (by decide) (by decide)) hM.f30 rfl 25 (by decide) (hts _ (List.mem_of_getElem? (i := 1) rfl)) rfl rfl (by decide +kernel) rfl rfl (Nat.le_of_ble_eq_true rfl) dX5_book_2 (fun H locs hW hS hz2 => ?_)
  obtain ⟨F_2, hFe2, hFo2, hW⟩ := ck_name hW
  have hM := hM.set30 hFe2 hFo2 hM.nc hM.nr rfl rfl
  have hsm := hsm.put (by decide) hFo2
  have hKK := hKK0.keep hS.2.1
  refine lv_iconst (v := 0) hx hb dX5_book_5 (by decide) ?_
  refine lv_istore_n (lv' := [(1, .int 0), (0, .ref (ad 30))]) hx hb dX5_book_6 rfl hl (by decide) rfl (fun ls hl => ?_)
  refine lv_iconst (v := 0) hx hb dX5_book_7 (by decide) ?_
  refine lv_istore_n (lv' := [(2, .int 0), (1, .int 0), (0, .ref (ad 30))]) hx hb dX5_book_8 rfl hl (by decide) rfl (fun ls hl => ?_)
  have hM : ck_M G ad (va_up V 5 (ck_bkd V nr 0)) L nc nr 0 N F_2 := by rw [ck_bkd_0, ck_up_self]; exact hM
  refine ck_loopW (P := fun ls H locs => W p l e _ s m _ below meth c H locs _ _ _ (F0 m _ ls _)) nc (fun k => [(2, .int (nI k)), (1, .int (ck_bcn V nr k)), (0, .ref (ad 30))]) (fun k H locs => va_S (ck_A G) s.heap H locs ∧ ∃ F1, ck_W G ad N F1 H ∧ ck_M G ad (va_up V 5 (ck_bkd V nr k)) L nc nr 0 N F1 ∧ ck_sM F F1) (lv_sub hl [0, 1, 2] rfl) ⟨hS, F_2, hW, hM, hsm⟩ ?_ ?_
  · intro ls H locs hl hI9
    obtain ⟨hS, F_exit9, hW, hM, hsm⟩ := hI9
    have hl : lv_has ls 3 [(2, .int (nI nc)), (1, .int (ck_bcn V nr nc)), (0, .ref (ad 30))] := hl
    have hKK := hKK0.keep hS.2.1
    refine lv_iload_n hx hb dX5_book_9 rfl (lv_at hl 0 rfl) ?_
    refine lv_aload_n hx hb dX5_book_10 rfl (lv_at hl 2 rfl) ?_
    refine ck_get (v := .int (nI nc)) hx hb hts hinX5 hown hK hW (hM.n 30 (by decide) (by decide)) hM.f30 rfl 6 (by decide) (hts _ (List.mem_of_getElem? (i := 2) rfl)) rfl rfl dX5_book_11 ?_
    refine lv_icmp_ge (tgt := 62) hx hb dX5_book_14 (by decide) (fun _ => ?_) (fun c_14 => absurd (Int32.le_refl _) c_14)
    refine lv_iload_n hx hb dX5_book_62 rfl (lv_at hl 1 rfl) ?_
    exact W.iret (v := (ck_bcn V nr nc)) hx hb hr (fun t ht hW9 => ⟨⟨_, rfl, by rw [ht]; exact ⟨_, _, F_exit9, ⟨rfl, rfl, rfl⟩, hW, hM, hsm⟩⟩, hS.F ht⟩) hS.2.2 dX5_book_63
  · intro k9 hk9 ih9 ls H locs hl hI9
    obtain ⟨hS, F_step9, hW, hM, hsm⟩ := hI9
    have hl : lv_has ls 3 [(2, .int (nI k9)), (1, .int (ck_bcn V nr k9)), (0, .ref (ad 30))] := hl
    have hKK := hKK0.keep hS.2.1
    refine lv_iload_n hx hb dX5_book_9 rfl (lv_at hl 0 rfl) ?_
    refine lv_aload_n hx hb dX5_book_10 rfl (lv_at hl 2 rfl) ?_
    refine ck_get (v := .int (nI nc)) hx hb hts hinX5 hown hK hW (hM.n 30 (by decide) (by decide)) hM.f30 rfl 6 (by decide) (hts _ (List.mem_of_getElem? (i := 2) rfl)) rfl rfl dX5_book_11 ?_
    refine lv_icmp_ge (tgt := 62) hx hb dX5_book_14 (by decide) (fun c_14 => absurd c_14 (nI_ge hk9 (by have := hM.nc; omega))) (fun _ => ?_)
    refine lv_aload_n hx hb dX5_book_17 rfl (lv_at hl 2 rfl) ?_
    refine ck_get (v := .ref (ad 41)) hx hb hts hinX5 hown hK hW (hM.n 30 (by decide) (by decide)) hM.f30 rfl 12 (by decide) (hts _ (List.mem_of_getElem? (i := 3) rfl)) rfl rfl dX5_book_18 ?_
    refine lv_iload_n hx hb dX5_book_21 rfl (lv_at hl 0 rfl) ?_
    refine ck_iald hx hb hK hW (hM.n 41 (by decide) (by decide)) hM.f41 k9 (rfl) (by have := hM.nc; omega) (by decide) dX5_book_22 ?_
    refine lv_topi (fun y9 ey9 => ?_)
    have ey8 : y9 = V 5 k9 := ey9.trans (ck_bkd_at V nr k9)
    subst ey8
    refine lv_iconst (v := (-1)) hx hb dX5_book_23 (by decide) ?_
    refine lv_icmp_ne (tgt := 56) hx hb dX5_book_24 (by decide) (fun c_24 => ?_) (fun c_24 => ?_)
    · skip
      refine lv_iinc (v := nI (k9 + 1)) (lv' := [(2, .int (nI (k9 + 1))), (1, .int (ck_bcn V nr k9)), (0, .ref (ad 30))]) hx hb dX5_book_56 hl (k := 0) rfl (nI_1 k9) (by decide) rfl (fun ls hl => ?_)
      refine lv_goto (tgt := 9) hx hb dX5_book_59 (by decide) ?_
      have hM : ck_M G ad (va_up V 5 (ck_bkd V nr (k9 + 1))) L nc nr 0 N F_step9 := by rw [ck_bkd_no c_24]; exact hM
      have e9 : ck_bcn V nr (k9 + 1) = ck_bcn V nr k9 := by simp only [ck_bcn]; rw [if_neg (fun z => c_24 z.1)]
      have hl : lv_has ls 3 [(2, .int (nI (k9 + 1))), (1, .int (ck_bcn V nr (k9 + 1))), (0, .ref (ad 30))] := by rw [e9]; exact hl
      exact ih9 ls H locs (lv_sub hl [0, 1, 2] rfl) ⟨hS, F_step9, hW, hM, hsm⟩
    · skip
      refine lv_aload_n hx hb dX5_book_27 rfl (lv_at hl 2 rfl) ?_
      refine ck_get (v := .ref (ad 41)) hx hb hts hinX5 hown hK hW (hM.n 30 (by decide) (by decide)) hM.f30 rfl 12 (by decide) (hts _ (List.mem_of_getElem? (i := 3) rfl)) rfl rfl dX5_book_28 ?_
      refine lv_iload_n hx hb dX5_book_31 rfl (lv_at hl 0 rfl) ?_
      refine lv_aload_n hx hb dX5_book_32 rfl (lv_at hl 2 rfl) ?_
      refine lv_iload_n hx hb dX5_book_33 rfl (lv_at hl 0 rfl) ?_
      refine ck_cVi (As := [.int (nI k9)]) (rest := [.int (nI k9), .ref (ad 41)]) ⟨hx, hb, hml, hown, hts⟩ hKK (ct_X5_chargeOf l G H ad N F_step9 hW (va_up V 5 (ck_bkd V nr k9)) L nc nr 0 hM k9 (hk9) hp7 (hn0 k9 (hk9)) hst) (cwV 1 hts gX5_book_X5_chargeOf rfl rfl rfl (by decide +kernel) ⟨Nat.le_of_ble_eq_true rfl, Nat.le_of_ble_eq_true rfl⟩) (ck_recv hK hW (hM.n 30 (by decide) (by decide)) hM.f30 rfl) rfl hl rfl (Nat.le_of_ble_eq_true rfl) dX5_book_34 ⟨Nat.le_of_ble_eq_true rfl, Nat.le_of_ble_eq_true rfl⟩ (fun r_34 h_34 => ?_)
      subst h_34
      refine lv_topi (fun y9 ey9 => ?_)
      have ey8 : y9 = ck_now V nr k9 := ey9.trans (ck_now_5 _ _ _ _)
      subst ey8
      refine ck_iast hx hb hK hW hS (hM.n 41 (by decide) (by decide)) hM.f41 k9 (rfl) (by have := hM.nc; omega) (by decide) dX5_book_37 (fun H locs hW hS hz37 => ?_)
      obtain ⟨F_37, hFe37, hFo37, hW⟩ := ck_name hW
      have hM := hM.set41 hFe37 hFo37
      have hsm := hsm.put (by decide) hFo37
      have hKK := hKK0.keep hS.2.1
      refine lv_iload_n hx hb dX5_book_38 rfl (lv_at hl 1 rfl) ?_
      refine lv_aload_n hx hb dX5_book_39 rfl (lv_at hl 2 rfl) ?_
      refine ck_get (v := .ref (ad 41)) hx hb hts hinX5 hown hK hW (hM.n 30 (by decide) (by decide)) hM.f30 rfl 12 (by decide) (hts _ (List.mem_of_getElem? (i := 3) rfl)) rfl rfl dX5_book_40 ?_
      refine lv_iload_n hx hb dX5_book_43 rfl (lv_at hl 0 rfl) ?_
      refine ck_iald hx hb hK hW (hM.n 41 (by decide) (by decide)) hM.f41 k9 (rfl) (by have := hM.nc; omega) (by decide) dX5_book_44 ?_
      refine lv_topi (fun y9 ey9 => ?_)
      have ey8 : y9 = ck_now V nr k9 := ey9.trans (if_pos rfl)
      subst ey8
      refine lv_iconst (v := (-1)) hx hb dX5_book_45 (by decide) ?_
      refine lv_icmp_ne (tgt := 53) hx hb dX5_book_46 (by decide) (fun c_46 => ?_) (fun c_46 => ?_)
      · skip
        refine lv_iconst (v := 1) hx hb dX5_book_53 (by decide) ?_
        refine lv_iadd hx hb dX5_book_54 ?_
        refine lv_istore_n (lv' := [(1, .int (((ck_bcn V nr k9)) + 1)), (2, .int (nI k9)), (0, .ref (ad 30))]) hx hb dX5_book_55 rfl hl (by decide) rfl (fun ls hl => ?_)
        refine lv_iinc (v := nI (k9 + 1)) (lv' := [(2, .int (nI (k9 + 1))), (1, .int (((ck_bcn V nr k9)) + 1)), (0, .ref (ad 30))]) hx hb dX5_book_56 hl (k := 1) rfl (nI_1 k9) (by decide) rfl (fun ls hl => ?_)
        refine lv_goto (tgt := 9) hx hb dX5_book_59 (by decide) ?_
        have hM : ck_M G ad (va_up V 5 (ck_bkd V nr (k9 + 1))) L nc nr 0 N F_37 := by rw [← ck_bkd_yes c_24, ← ck_up2 V 5 (ck_bkd V nr k9)]; exact hM
        have e9 : ck_bcn V nr (k9 + 1) = ck_bcn V nr k9 + 1 := by simp only [ck_bcn]; rw [if_pos ⟨c_24, c_46⟩]
        have hl : lv_has ls 3 [(2, .int (nI (k9 + 1))), (1, .int (ck_bcn V nr (k9 + 1))), (0, .ref (ad 30))] := by rw [e9]; exact hl
        exact ih9 ls H locs (lv_sub hl [0, 1, 2] rfl) ⟨hS, F_37, hW, hM, hsm⟩
      · skip
        refine lv_iconst (v := 0) hx hb dX5_book_49 (by decide) ?_
        refine lv_goto (tgt := 54) hx hb dX5_book_50 (by decide) ?_
        refine lv_iadd hx hb dX5_book_54 ?_
        refine lv_istore_n (lv' := [(1, .int (((ck_bcn V nr k9)) + 0)), (2, .int (nI k9)), (0, .ref (ad 30))]) hx hb dX5_book_55 rfl hl (by decide) rfl (fun ls hl => ?_)
        refine lv_iinc (v := nI (k9 + 1)) (lv' := [(2, .int (nI (k9 + 1))), (1, .int (((ck_bcn V nr k9)) + 0)), (0, .ref (ad 30))]) hx hb dX5_book_56 hl (k := 1) rfl (nI_1 k9) (by decide) rfl (fun ls hl => ?_)
        refine lv_goto (tgt := 9) hx hb dX5_book_59 (by decide) ?_
        have hM : ck_M G ad (va_up V 5 (ck_bkd V nr (k9 + 1))) L nc nr 0 N F_37 := by rw [← ck_bkd_yes c_24, ← ck_up2 V 5 (ck_bkd V nr k9)]; exact hM
        have e9 : ck_bcn V nr (k9 + 1) = ck_bcn V nr k9 + 0 := by simp only [ck_bcn]; rw [if_neg (fun z => z.2 c_46), Int32.add_zero]
        have hl : lv_has ls 3 [(2, .int (nI (k9 + 1))), (1, .int (ck_bcn V nr (k9 + 1))), (0, .ref (ad 30))] := by rw [e9]; exact hl
        exact ih9 ls H locs (lv_sub hl [0, 1, 2] rfl) ⟨hS, F_37, hW, hM, hsm⟩
def ck_cn (V : Nat → Nat → Int32) (nr k : Nat) : Int32 := if V 5 k = -1 then -1 else ck_now V nr k
def ck_cb5 (V : Nat → Nat → Int32) (nr n : Nat) : Nat → Int32 := fun k => if k < n ∧ ¬ ck_cn V nr k = -1 then ck_cn V nr k else V 5 k
def ck_csm (V : Nat → Nat → Int32) (nr : Nat) : Nat → Int32
  | 0 => 0
  | k + 1 => if ck_cn V nr k = -1 then ck_csm V nr k else ck_csm V nr k + (ck_cn V nr k - V 5 k)
def ck_cct (V : Nat → Nat → Int32) (nr : Nat) : Nat → Int32
  | 0 => V 13 1
  | k + 1 => if ck_cn V nr k = -1 ∨ ck_cn V nr k = V 5 k then ck_cct V nr k else ck_cct V nr k + 1
def ck_cV (V : Nat → Nat → Int32) (nr n : Nat) : Nat → Nat → Int32 := va_up (va_up V 5 (ck_cb5 V nr n)) 13 (upd (V 13) 1 (ck_cct V nr n))
theorem ck_cb5_at (V : Nat → Nat → Int32) (nr k : Nat) : ck_cb5 V nr k k = V 5 k := by simp [ck_cb5]
theorem ck_cV_0 (V : Nat → Nat → Int32) (nr : Nat) : ck_cV V nr 0 = V := by
  have e1 : ck_cb5 V nr 0 = V 5 := by funext k; simp [ck_cb5]
  have e2 : upd (V 13) 1 (ck_cct V nr 0) = V 13 := by funext k; by_cases h : k = 1 <;> simp [upd, ck_cct, h]
  unfold ck_cV; rw [e1, e2, ck_up_self, ck_up_self]
theorem ck_cV_no {V : Nat → Nat → Int32} {nr k : Nat} (h : ck_cn V nr k = -1) : ck_cV V nr (k + 1) = ck_cV V nr k := by
  have e1 : ck_cb5 V nr (k + 1) = ck_cb5 V nr k := by
    funext j; simp only [ck_cb5]
    by_cases e : j = k
    · subst e; simp [h]
    · simp only [show (j < k + 1) = (j < k) by simp; omega]
  have e2 : ck_cct V nr (k + 1) = ck_cct V nr k := by simp only [ck_cct]; rw [if_pos (Or.inl h)]
  unfold ck_cV; rw [e1, e2]
theorem ck_cb5_yes {V : Nat → Nat → Int32} {nr k : Nat} (h : ¬ ck_cn V nr k = -1) : upd (ck_cb5 V nr k) k (ck_cn V nr k) = ck_cb5 V nr (k + 1) := by
  funext j; simp only [ck_cb5, upd]
  by_cases e : j = k
  · subst e; simp [h]
  · simp only [if_neg e, show (j < k + 1) = (j < k) by simp; omega]
theorem ck_now_cV (V : Nat → Nat → Int32) (nr n k : Nat) : ck_now (ck_cV V nr n) nr k = ck_now V nr k :=
  ck_now_c (by rw [ck_cV, va_up_ne _ _ (by decide), va_up_ne _ _ (by decide)]) (by rw [ck_cV, va_up_ne _ _ (by decide), va_up_ne _ _ (by decide)]) (by rw [ck_cV, va_up_ne _ _ (by decide), va_up_ne _ _ (by decide)]) (fun i h1 h2 => by rw [ck_cV, va_up_ne _ _ (by omega), va_up_ne _ _ (by omega)]) nr k
set_option maxHeartbeats 4000000 in
set_option maxRecDepth 100000 in
theorem ct_X5_correct (l : Launch) (G : ck_G) (H : Heap) (ad : Nat → Nat) (N : Nat → Prop) (F : Nat → va_E) (hW : ck_W G ad N F H) (V : Nat → Nat → Int32) (L : Nat → Nat → Int64) (nc nr : Nat) (t : Int32) (hM : ck_M G ad V L nc nr t N F) (hI : ck_I V nc nr) : Met l yX5_correct wsX5_correct ({ frames := 3, cells := 0, slots := 0, locals := 71 }) (ck_P G H [.ref (ad 30)]) (ck_Qi G (fun r H1 => ∃ t1 V1 F1, (t1 = 0 ∧ r = ck_csm V nr nc ∧ V1 = (ck_cV V nr nc)) ∧ ck_W G ad N F1 H1 ∧ ck_M G ad V1 L nc nr t1 N F1 ∧ ck_sM F F1)) 0 0 (ck_A G) := by
  refine Met.ofW (cc := cX5_correct) (maxL := 4) (ret := (some .int)) (by decide) rfl ?_
  intro p e s m args below meth c s₁ B hml hv
  obtain ⟨rfl, hH, hKK⟩ := hv
  subst hH
  have hx := B.exec
  have hb := B.bytes
  have hr := B.returns
  have hts := atoms_spec (ws := wsX5_correct) B.pre
  have hown : s.vm.findClass RX5 = some m.cls := findClass_of_methodNamed B.named
  have hlocks := B.notSynchronized
  have hKK0 := hKK
  have hK := hKK.1.1
  have hS : va_S (ck_A G) s.heap s.heap [] := va_S.rf
  have hinX5 : ∀ w ∈ u_ws RX5 TX5 26, w ∈ wsX5_correct := by decide +kernel
  have hl := lv_entry ([.ref (ad 30)]) (n := 4) (Nat.le_of_ble_eq_true rfl)
  rw [lg_entry_eq]
  generalize (lg_sl ([.ref (ad 30)]) ++ List.replicate (4 - (lg_sl ([.ref (ad 30)])).length) Slot.unset).toArray = ls at hl ⊢
  have hl : lv_has ls 4 [(0, .ref (ad 30))] := hl
  have hsm : ck_sM F F := ck_sM.rf
  have hp7 := hI.hp7
  have hn0 := hI.hn0
  have hst := hI.hst
  refine lv_aload_n hx hb dX5_correct_0 rfl (lv_at hl 0 rfl) ?_
  refine lv_iconst (v := 0) hx hb dX5_correct_1 (by decide) ?_
  refine ck_put (v := .int 0) (ty := .int) hx hb hts hinX5 tyX5 tyX5_ok nmX5 hown hK hW hS (hM.n 30 (by decide) (by decide)) hM.f30 rfl 25 (by decide) (hts _ (List.mem_of_getElem? (i := 1) rfl)) rfl rfl (by decide +kernel) rfl rfl (Nat.le_of_ble_eq_true rfl) dX5_correct_2 (fun H locs hW hS hz2 => ?_)
  obtain ⟨F_2, hFe2, hFo2, hW⟩ := ck_name hW
  have hM := hM.set30 hFe2 hFo2 hM.nc hM.nr rfl rfl
  have hsm := hsm.put (by decide) hFo2
  have hKK := hKK0.keep hS.2.1
  refine lv_iconst (v := 0) hx hb dX5_correct_5 (by decide) ?_
  refine lv_istore_n (lv' := [(1, .int 0), (0, .ref (ad 30))]) hx hb dX5_correct_6 rfl hl (by decide) rfl (fun ls hl => ?_)
  refine lv_iconst (v := 0) hx hb dX5_correct_7 (by decide) ?_
  refine lv_istore_n (lv' := [(2, .int 0), (1, .int 0), (0, .ref (ad 30))]) hx hb dX5_correct_8 rfl hl (by decide) rfl (fun ls hl => ?_)
  have hM : ck_M G ad (ck_cV V nr 0) L nc nr 0 N F_2 := by rw [ck_cV_0]; exact hM
  refine ck_loopW (P := fun ls H locs => W p l e _ s m _ below meth c H locs _ _ _ (F0 m _ ls _)) nc (fun k => [(2, .int (nI k)), (1, .int (ck_csm V nr k)), (0, .ref (ad 30))]) (fun k H locs => va_S (ck_A G) s.heap H locs ∧ ∃ F1, ck_W G ad N F1 H ∧ ck_M G ad (ck_cV V nr k) L nc nr 0 N F1 ∧ ck_sM F F1) (lv_sub hl [0, 1, 2] rfl) ⟨hS, F_2, hW, hM, hsm⟩ ?_ ?_
  · intro ls H locs hl hI9
    obtain ⟨hS, F_exit9, hW, hM, hsm⟩ := hI9
    have hl : lv_has ls 4 [(2, .int (nI nc)), (1, .int (ck_csm V nr nc)), (0, .ref (ad 30))] := hl
    have hKK := hKK0.keep hS.2.1
    refine lv_iload_n hx hb dX5_correct_9 rfl (lv_at hl 0 rfl) ?_
    refine lv_aload_n hx hb dX5_correct_10 rfl (lv_at hl 2 rfl) ?_
    refine ck_get (v := .int (nI nc)) hx hb hts hinX5 hown hK hW (hM.n 30 (by decide) (by decide)) hM.f30 rfl 6 (by decide) (hts _ (List.mem_of_getElem? (i := 2) rfl)) rfl rfl dX5_correct_11 ?_
    refine lv_icmp_ge (tgt := 90) hx hb dX5_correct_14 (by decide) (fun _ => ?_) (fun c_14 => absurd (Int32.le_refl _) c_14)
    refine lv_iload_n hx hb dX5_correct_90 rfl (lv_at hl 1 rfl) ?_
    exact W.iret (v := (ck_csm V nr nc)) hx hb hr (fun t ht hW9 => ⟨⟨_, rfl, by rw [ht]; exact ⟨_, _, F_exit9, ⟨rfl, rfl, rfl⟩, hW, hM, hsm⟩⟩, hS.F ht⟩) hS.2.2 dX5_correct_91
  · intro k9 hk9 ih9 ls H locs hl hI9
    obtain ⟨hS, F_step9, hW, hM, hsm⟩ := hI9
    have hl : lv_has ls 4 [(2, .int (nI k9)), (1, .int (ck_csm V nr k9)), (0, .ref (ad 30))] := hl
    have hKK := hKK0.keep hS.2.1
    refine lv_iload_n hx hb dX5_correct_9 rfl (lv_at hl 0 rfl) ?_
    refine lv_aload_n hx hb dX5_correct_10 rfl (lv_at hl 2 rfl) ?_
    refine ck_get (v := .int (nI nc)) hx hb hts hinX5 hown hK hW (hM.n 30 (by decide) (by decide)) hM.f30 rfl 6 (by decide) (hts _ (List.mem_of_getElem? (i := 2) rfl)) rfl rfl dX5_correct_11 ?_
    refine lv_icmp_ge (tgt := 90) hx hb dX5_correct_14 (by decide) (fun c_14 => absurd c_14 (nI_ge hk9 (by have := hM.nc; omega))) (fun _ => ?_)
    refine lv_aload_n hx hb dX5_correct_17 rfl (lv_at hl 2 rfl) ?_
    refine ck_get (v := .ref (ad 41)) hx hb hts hinX5 hown hK hW (hM.n 30 (by decide) (by decide)) hM.f30 rfl 12 (by decide) (hts _ (List.mem_of_getElem? (i := 3) rfl)) rfl rfl dX5_correct_18 ?_
    refine lv_iload_n hx hb dX5_correct_21 rfl (lv_at hl 0 rfl) ?_
    refine ck_iald hx hb hK hW (hM.n 41 (by decide) (by decide)) hM.f41 k9 (rfl) (by have := hM.nc; omega) (by decide) dX5_correct_22 ?_
    refine lv_topi (fun y9 ey9 => ?_)
    have ey8 : y9 = V 5 k9 := ey9.trans (ck_cb5_at V nr k9)
    subst ey8
    refine lv_iconst (v := (-1)) hx hb dX5_correct_23 (by decide) ?_
    refine lv_icmp_ne (tgt := 31) hx hb dX5_correct_24 (by decide) (fun c_24 => ?_) (fun c_24 => ?_)
    · skip
      refine lv_aload_n hx hb dX5_correct_31 rfl (lv_at hl 2 rfl) ?_
      refine lv_iload_n hx hb dX5_correct_32 rfl (lv_at hl 0 rfl) ?_
      refine ck_cVi (As := [.int (nI k9)]) (rest := []) ⟨hx, hb, hml, hown, hts⟩ hKK (ct_X5_chargeOf l G H ad N F_step9 hW (ck_cV V nr k9) L nc nr 0 hM k9 (hk9) hp7 (hn0 k9 (hk9)) hst) (cwV 1 hts gX5_correct_X5_chargeOf rfl rfl rfl (by decide +kernel) ⟨Nat.le_of_ble_eq_true rfl, Nat.le_of_ble_eq_true rfl⟩) (ck_recv hK hW (hM.n 30 (by decide) (by decide)) hM.f30 rfl) rfl hl rfl (Nat.le_of_ble_eq_true rfl) dX5_correct_33 ⟨Nat.le_of_ble_eq_true rfl, Nat.le_of_ble_eq_true rfl⟩ (fun r_33 h_33 => ?_)
      subst h_33
      refine lv_topi (fun y9 ey9 => ?_)
      have ey8 : y9 = ck_cn V nr k9 := ey9.trans ((ck_now_cV _ _ _ _).trans (if_neg c_24).symm)
      subst ey8
      refine lv_istore_n (lv' := [(3, .int (ck_cn V nr k9)), (2, .int (nI k9)), (1, .int (ck_csm V nr k9)), (0, .ref (ad 30))]) hx hb dX5_correct_36 rfl hl (by decide) rfl (fun ls hl => ?_)
      refine lv_iload_n hx hb dX5_correct_37 rfl (lv_at hl 0 rfl) ?_
      refine lv_iconst (v := (-1)) hx hb dX5_correct_38 (by decide) ?_
      refine lv_icmp_eq (tgt := 84) hx hb dX5_correct_39 (by decide) (fun c_39 => ?_) (fun c_39 => ?_)
      · skip
        refine lv_iinc (v := nI (k9 + 1)) (lv' := [(2, .int (nI (k9 + 1))), (3, .int (ck_cn V nr k9)), (1, .int (ck_csm V nr k9)), (0, .ref (ad 30))]) hx hb dX5_correct_84 hl (k := 1) rfl (nI_1 k9) (by decide) rfl (fun ls hl => ?_)
        refine lv_goto (tgt := 9) hx hb dX5_correct_87 (by decide) ?_
        have hM : ck_M G ad (ck_cV V nr (k9 + 1)) L nc nr 0 N F_step9 := by rw [ck_cV_no c_39]; exact hM
        have e9 : ck_csm V nr (k9 + 1) = ck_csm V nr k9 := by simp only [ck_csm]; rw [if_pos c_39]
        have hl : lv_has ls 4 [(2, .int (nI (k9 + 1))), (3, .int (ck_cn V nr k9)), (1, .int (ck_csm V nr (k9 + 1))), (0, .ref (ad 30))] := by rw [e9]; exact hl
        exact ih9 ls H locs (lv_sub hl [0, 2, 3] rfl) ⟨hS, F_step9, hW, hM, hsm⟩
      · skip
        refine lv_iload_n hx hb dX5_correct_42 rfl (lv_at hl 2 rfl) ?_
        refine lv_iload_n hx hb dX5_correct_43 rfl (lv_at hl 0 rfl) ?_
        refine lv_aload_n hx hb dX5_correct_44 rfl (lv_at hl 3 rfl) ?_
        refine ck_get (v := .ref (ad 41)) hx hb hts hinX5 hown hK hW (hM.n 30 (by decide) (by decide)) hM.f30 rfl 12 (by decide) (hts _ (List.mem_of_getElem? (i := 3) rfl)) rfl rfl dX5_correct_45 ?_
        refine lv_iload_n hx hb dX5_correct_48 rfl (lv_at hl 1 rfl) ?_
        refine ck_iald hx hb hK hW (hM.n 41 (by decide) (by decide)) hM.f41 k9 (rfl) (by have := hM.nc; omega) (by decide) dX5_correct_49 ?_
        refine lv_topi (fun y9 ey9 => ?_)
        have ey8 : y9 = V 5 k9 := ey9.trans (ck_cb5_at V nr k9)
        subst ey8
        refine lv_isub hx hb dX5_correct_50 ?_
        refine lv_iadd hx hb dX5_correct_51 ?_
        refine lv_istore_n (lv' := [(1, .int (((ck_csm V nr k9)) + ((((ck_cn V nr k9)) - ((V 5 k9)))))), (3, .int (ck_cn V nr k9)), (2, .int (nI k9)), (0, .ref (ad 30))]) hx hb dX5_correct_52 rfl hl (by decide) rfl (fun ls hl => ?_)
        refine lv_aload_n hx hb dX5_correct_53 rfl (lv_at hl 3 rfl) ?_
        refine lv_dup hx hb dX5_correct_54 rfl ?_
        refine ck_get (v := .int (ck_cct V nr k9)) hx hb hts hinX5 hown hK hW (hM.n 30 (by decide) (by decide)) hM.f30 rfl 14 (by decide) (hts _ (List.mem_of_getElem? (i := 4) rfl)) rfl rfl dX5_correct_55 ?_
        refine lv_iload_n hx hb dX5_correct_58 rfl (lv_at hl 1 rfl) ?_
        refine lv_aload_n hx hb dX5_correct_59 rfl (lv_at hl 3 rfl) ?_
        refine ck_get (v := .ref (ad 41)) hx hb hts hinX5 hown hK hW (hM.n 30 (by decide) (by decide)) hM.f30 rfl 12 (by decide) (hts _ (List.mem_of_getElem? (i := 3) rfl)) rfl rfl dX5_correct_60 ?_
        refine lv_iload_n hx hb dX5_correct_63 rfl (lv_at hl 2 rfl) ?_
        refine ck_iald hx hb hK hW (hM.n 41 (by decide) (by decide)) hM.f41 k9 (rfl) (by have := hM.nc; omega) (by decide) dX5_correct_64 ?_
        refine lv_topi (fun y9 ey9 => ?_)
        have ey8 : y9 = V 5 k9 := ey9.trans (ck_cb5_at V nr k9)
        subst ey8
        refine lv_icmp_ne (tgt := 72) hx hb dX5_correct_65 (by decide) (fun c_65 => ?_) (fun c_65 => ?_)
        · skip
          refine lv_iconst (v := 1) hx hb dX5_correct_72 (by decide) ?_
          refine lv_iadd hx hb dX5_correct_73 ?_
          refine lv_topi (fun y9 ey9 => ?_)
          have ey8 : y9 = ck_cct V nr (k9 + 1) := ey9.trans (by simp only [ck_cct]; rw [if_neg (fun z => z.elim c_39 c_65)])
          subst ey8
          refine ck_put (v := .int (ck_cct V nr (k9 + 1))) (ty := .int) hx hb hts hinX5 tyX5 tyX5_ok nmX5 hown hK hW hS (hM.n 30 (by decide) (by decide)) hM.f30 rfl 14 (by decide) (hts _ (List.mem_of_getElem? (i := 4) rfl)) rfl rfl (by decide +kernel) rfl rfl (Nat.le_of_ble_eq_true rfl) dX5_correct_74 (fun H locs hW hS hz74 => ?_)
          obtain ⟨F_74, hFe74, hFo74, hW⟩ := ck_name hW
          have hM := hM.setB hFe74 hFo74 (g := upd (V 13) 1 (ck_cct V nr (k9 + 1))) rfl rfl
          have hsm := hsm.put (by decide) hFo74
          have hKK := hKK0.keep hS.2.1
          refine lv_aload_n hx hb dX5_correct_77 rfl (lv_at hl 3 rfl) ?_
          refine ck_get (v := .ref (ad 41)) hx hb hts hinX5 hown hK hW (hM.n 30 (by decide) (by decide)) hM.f30 rfl 12 (by decide) (hts _ (List.mem_of_getElem? (i := 3) rfl)) rfl rfl dX5_correct_78 ?_
          refine lv_iload_n hx hb dX5_correct_81 rfl (lv_at hl 2 rfl) ?_
          refine lv_iload_n hx hb dX5_correct_82 rfl (lv_at hl 1 rfl) ?_
          refine ck_iast hx hb hK hW hS (hM.n 41 (by decide) (by decide)) hM.f41 k9 (rfl) (by have := hM.nc; omega) (by decide) dX5_correct_83 (fun H locs hW hS hz83 => ?_)
          obtain ⟨F_83, hFe83, hFo83, hW⟩ := ck_name hW
          have hM := hM.set41 hFe83 hFo83
          have hsm := hsm.put (by decide) hFo83
          have hKK := hKK0.keep hS.2.1
          refine lv_iinc (v := nI (k9 + 1)) (lv' := [(2, .int (nI (k9 + 1))), (1, .int (((ck_csm V nr k9)) + ((((ck_cn V nr k9)) - ((V 5 k9)))))), (3, .int (ck_cn V nr k9)), (0, .ref (ad 30))]) hx hb dX5_correct_84 hl (k := 2) rfl (nI_1 k9) (by decide) rfl (fun ls hl => ?_)
          refine lv_goto (tgt := 9) hx hb dX5_correct_87 (by decide) ?_
          have hM : ck_M G ad (ck_cV V nr (k9 + 1)) L nc nr 0 N F_83 := by
            have e8 : ck_cV V nr (k9 + 1) = va_up (va_up (ck_cV V nr k9) 13 (upd (V 13) 1 (ck_cct V nr (k9 + 1)))) 5 (upd (ck_cb5 V nr k9) k9 (ck_cn V nr k9)) := by
              rw [ck_cb5_yes c_39]; unfold ck_cV; funext j; by_cases h5 : j = 5 <;> by_cases h13 : j = 13 <;> simp [va_up, h5, h13]
            rw [e8]; exact hM
          have e9 : ck_csm V nr (k9 + 1) = ck_csm V nr k9 + (ck_cn V nr k9 - V 5 k9) := by simp only [ck_csm]; rw [if_neg c_39]
          have hl : lv_has ls 4 [(2, .int (nI (k9 + 1))), (1, .int (ck_csm V nr (k9 + 1))), (3, .int (ck_cn V nr k9)), (0, .ref (ad 30))] := by rw [e9]; exact hl
          exact ih9 ls H locs (lv_sub hl [0, 1, 3] rfl) ⟨hS, F_83, hW, hM, hsm⟩
        · skip
          refine lv_iconst (v := 0) hx hb dX5_correct_68 (by decide) ?_
          refine lv_goto (tgt := 73) hx hb dX5_correct_69 (by decide) ?_
          refine lv_iadd hx hb dX5_correct_73 ?_
          refine lv_topi (fun y9 ey9 => ?_)
          have ey8 : y9 = ck_cct V nr (k9 + 1) := ey9.trans (by simp only [ck_cct]; rw [if_pos (Or.inr c_65), Int32.add_zero])
          subst ey8
          refine ck_put (v := .int (ck_cct V nr (k9 + 1))) (ty := .int) hx hb hts hinX5 tyX5 tyX5_ok nmX5 hown hK hW hS (hM.n 30 (by decide) (by decide)) hM.f30 rfl 14 (by decide) (hts _ (List.mem_of_getElem? (i := 4) rfl)) rfl rfl (by decide +kernel) rfl rfl (Nat.le_of_ble_eq_true rfl) dX5_correct_74 (fun H locs hW hS hz74 => ?_)
          obtain ⟨F_74, hFe74, hFo74, hW⟩ := ck_name hW
          have hM := hM.setB hFe74 hFo74 (g := upd (V 13) 1 (ck_cct V nr (k9 + 1))) rfl rfl
          have hsm := hsm.put (by decide) hFo74
          have hKK := hKK0.keep hS.2.1
          refine lv_aload_n hx hb dX5_correct_77 rfl (lv_at hl 3 rfl) ?_
          refine ck_get (v := .ref (ad 41)) hx hb hts hinX5 hown hK hW (hM.n 30 (by decide) (by decide)) hM.f30 rfl 12 (by decide) (hts _ (List.mem_of_getElem? (i := 3) rfl)) rfl rfl dX5_correct_78 ?_
          refine lv_iload_n hx hb dX5_correct_81 rfl (lv_at hl 2 rfl) ?_
          refine lv_iload_n hx hb dX5_correct_82 rfl (lv_at hl 1 rfl) ?_
          refine ck_iast hx hb hK hW hS (hM.n 41 (by decide) (by decide)) hM.f41 k9 (rfl) (by have := hM.nc; omega) (by decide) dX5_correct_83 (fun H locs hW hS hz83 => ?_)
          obtain ⟨F_83, hFe83, hFo83, hW⟩ := ck_name hW
          have hM := hM.set41 hFe83 hFo83
          have hsm := hsm.put (by decide) hFo83
          have hKK := hKK0.keep hS.2.1
          refine lv_iinc (v := nI (k9 + 1)) (lv' := [(2, .int (nI (k9 + 1))), (1, .int (((ck_csm V nr k9)) + ((((ck_cn V nr k9)) - ((V 5 k9)))))), (3, .int (ck_cn V nr k9)), (0, .ref (ad 30))]) hx hb dX5_correct_84 hl (k := 2) rfl (nI_1 k9) (by decide) rfl (fun ls hl => ?_)
          refine lv_goto (tgt := 9) hx hb dX5_correct_87 (by decide) ?_
          have hM : ck_M G ad (ck_cV V nr (k9 + 1)) L nc nr 0 N F_83 := by
            have e8 : ck_cV V nr (k9 + 1) = va_up (va_up (ck_cV V nr k9) 13 (upd (V 13) 1 (ck_cct V nr (k9 + 1)))) 5 (upd (ck_cb5 V nr k9) k9 (ck_cn V nr k9)) := by
              rw [ck_cb5_yes c_39]; unfold ck_cV; funext j; by_cases h5 : j = 5 <;> by_cases h13 : j = 13 <;> simp [va_up, h5, h13]
            rw [e8]; exact hM
          have e9 : ck_csm V nr (k9 + 1) = ck_csm V nr k9 + (ck_cn V nr k9 - V 5 k9) := by simp only [ck_csm]; rw [if_neg c_39]
          have hl : lv_has ls 4 [(2, .int (nI (k9 + 1))), (1, .int (ck_csm V nr (k9 + 1))), (3, .int (ck_cn V nr k9)), (0, .ref (ad 30))] := by rw [e9]; exact hl
          exact ih9 ls H locs (lv_sub hl [0, 1, 3] rfl) ⟨hS, F_83, hW, hM, hsm⟩
    · skip
      refine lv_iconst (v := (-1)) hx hb dX5_correct_27 (by decide) ?_
      refine lv_goto (tgt := 36) hx hb dX5_correct_28 (by decide) ?_
      refine lv_topi (fun y9 ey9 => ?_)
      have ey8 : y9 = ck_cn V nr k9 := ey9.trans ((if_pos c_24).symm)
      subst ey8
      refine lv_istore_n (lv' := [(3, .int (ck_cn V nr k9)), (2, .int (nI k9)), (1, .int (ck_csm V nr k9)), (0, .ref (ad 30))]) hx hb dX5_correct_36 rfl hl (by decide) rfl (fun ls hl => ?_)
      refine lv_iload_n hx hb dX5_correct_37 rfl (lv_at hl 0 rfl) ?_
      refine lv_iconst (v := (-1)) hx hb dX5_correct_38 (by decide) ?_
      refine lv_icmp_eq (tgt := 84) hx hb dX5_correct_39 (by decide) (fun c_39 => ?_) (fun c_39 => ?_)
      · skip
        refine lv_iinc (v := nI (k9 + 1)) (lv' := [(2, .int (nI (k9 + 1))), (3, .int (ck_cn V nr k9)), (1, .int (ck_csm V nr k9)), (0, .ref (ad 30))]) hx hb dX5_correct_84 hl (k := 1) rfl (nI_1 k9) (by decide) rfl (fun ls hl => ?_)
        refine lv_goto (tgt := 9) hx hb dX5_correct_87 (by decide) ?_
        have hM : ck_M G ad (ck_cV V nr (k9 + 1)) L nc nr 0 N F_step9 := by rw [ck_cV_no c_39]; exact hM
        have e9 : ck_csm V nr (k9 + 1) = ck_csm V nr k9 := by simp only [ck_csm]; rw [if_pos c_39]
        have hl : lv_has ls 4 [(2, .int (nI (k9 + 1))), (3, .int (ck_cn V nr k9)), (1, .int (ck_csm V nr (k9 + 1))), (0, .ref (ad 30))] := by rw [e9]; exact hl
        exact ih9 ls H locs (lv_sub hl [0, 2, 3] rfl) ⟨hS, F_step9, hW, hM, hsm⟩
      · skip
        refine lv_iload_n hx hb dX5_correct_42 rfl (lv_at hl 2 rfl) ?_
        refine lv_iload_n hx hb dX5_correct_43 rfl (lv_at hl 0 rfl) ?_
        refine lv_aload_n hx hb dX5_correct_44 rfl (lv_at hl 3 rfl) ?_
        refine ck_get (v := .ref (ad 41)) hx hb hts hinX5 hown hK hW (hM.n 30 (by decide) (by decide)) hM.f30 rfl 12 (by decide) (hts _ (List.mem_of_getElem? (i := 3) rfl)) rfl rfl dX5_correct_45 ?_
        refine lv_iload_n hx hb dX5_correct_48 rfl (lv_at hl 1 rfl) ?_
        refine ck_iald hx hb hK hW (hM.n 41 (by decide) (by decide)) hM.f41 k9 (rfl) (by have := hM.nc; omega) (by decide) dX5_correct_49 ?_
        refine lv_topi (fun y9 ey9 => ?_)
        have ey8 : y9 = V 5 k9 := ey9.trans (ck_cb5_at V nr k9)
        subst ey8
        refine lv_isub hx hb dX5_correct_50 ?_
        refine lv_iadd hx hb dX5_correct_51 ?_
        refine lv_istore_n (lv' := [(1, .int (((ck_csm V nr k9)) + ((((ck_cn V nr k9)) - ((V 5 k9)))))), (3, .int (ck_cn V nr k9)), (2, .int (nI k9)), (0, .ref (ad 30))]) hx hb dX5_correct_52 rfl hl (by decide) rfl (fun ls hl => ?_)
        refine lv_aload_n hx hb dX5_correct_53 rfl (lv_at hl 3 rfl) ?_
        refine lv_dup hx hb dX5_correct_54 rfl ?_
        refine ck_get (v := .int (ck_cct V nr k9)) hx hb hts hinX5 hown hK hW (hM.n 30 (by decide) (by decide)) hM.f30 rfl 14 (by decide) (hts _ (List.mem_of_getElem? (i := 4) rfl)) rfl rfl dX5_correct_55 ?_
        refine lv_iload_n hx hb dX5_correct_58 rfl (lv_at hl 1 rfl) ?_
        refine lv_aload_n hx hb dX5_correct_59 rfl (lv_at hl 3 rfl) ?_
        refine ck_get (v := .ref (ad 41)) hx hb hts hinX5 hown hK hW (hM.n 30 (by decide) (by decide)) hM.f30 rfl 12 (by decide) (hts _ (List.mem_of_getElem? (i := 3) rfl)) rfl rfl dX5_correct_60 ?_
        refine lv_iload_n hx hb dX5_correct_63 rfl (lv_at hl 2 rfl) ?_
        refine ck_iald hx hb hK hW (hM.n 41 (by decide) (by decide)) hM.f41 k9 (rfl) (by have := hM.nc; omega) (by decide) dX5_correct_64 ?_
        refine lv_topi (fun y9 ey9 => ?_)
        have ey8 : y9 = V 5 k9 := ey9.trans (ck_cb5_at V nr k9)
        subst ey8
        refine lv_icmp_ne (tgt := 72) hx hb dX5_correct_65 (by decide) (fun c_65 => ?_) (fun c_65 => ?_)
        · skip
          refine lv_iconst (v := 1) hx hb dX5_correct_72 (by decide) ?_
          refine lv_iadd hx hb dX5_correct_73 ?_
          refine lv_topi (fun y9 ey9 => ?_)
          have ey8 : y9 = ck_cct V nr (k9 + 1) := ey9.trans (by simp only [ck_cct]; rw [if_neg (fun z => z.elim c_39 c_65)])
          subst ey8
          refine ck_put (v := .int (ck_cct V nr (k9 + 1))) (ty := .int) hx hb hts hinX5 tyX5 tyX5_ok nmX5 hown hK hW hS (hM.n 30 (by decide) (by decide)) hM.f30 rfl 14 (by decide) (hts _ (List.mem_of_getElem? (i := 4) rfl)) rfl rfl (by decide +kernel) rfl rfl (Nat.le_of_ble_eq_true rfl) dX5_correct_74 (fun H locs hW hS hz74 => ?_)
          obtain ⟨F_74, hFe74, hFo74, hW⟩ := ck_name hW
          have hM := hM.setB hFe74 hFo74 (g := upd (V 13) 1 (ck_cct V nr (k9 + 1))) rfl rfl
          have hsm := hsm.put (by decide) hFo74
          have hKK := hKK0.keep hS.2.1
          refine lv_aload_n hx hb dX5_correct_77 rfl (lv_at hl 3 rfl) ?_
          refine ck_get (v := .ref (ad 41)) hx hb hts hinX5 hown hK hW (hM.n 30 (by decide) (by decide)) hM.f30 rfl 12 (by decide) (hts _ (List.mem_of_getElem? (i := 3) rfl)) rfl rfl dX5_correct_78 ?_
          refine lv_iload_n hx hb dX5_correct_81 rfl (lv_at hl 2 rfl) ?_
          refine lv_iload_n hx hb dX5_correct_82 rfl (lv_at hl 1 rfl) ?_
          refine ck_iast hx hb hK hW hS (hM.n 41 (by decide) (by decide)) hM.f41 k9 (rfl) (by have := hM.nc; omega) (by decide) dX5_correct_83 (fun H locs hW hS hz83 => ?_)
          obtain ⟨F_83, hFe83, hFo83, hW⟩ := ck_name hW
          have hM := hM.set41 hFe83 hFo83
          have hsm := hsm.put (by decide) hFo83
          have hKK := hKK0.keep hS.2.1
          refine lv_iinc (v := nI (k9 + 1)) (lv' := [(2, .int (nI (k9 + 1))), (1, .int (((ck_csm V nr k9)) + ((((ck_cn V nr k9)) - ((V 5 k9)))))), (3, .int (ck_cn V nr k9)), (0, .ref (ad 30))]) hx hb dX5_correct_84 hl (k := 2) rfl (nI_1 k9) (by decide) rfl (fun ls hl => ?_)
          refine lv_goto (tgt := 9) hx hb dX5_correct_87 (by decide) ?_
          have hM : ck_M G ad (ck_cV V nr (k9 + 1)) L nc nr 0 N F_83 := by
            have e8 : ck_cV V nr (k9 + 1) = va_up (va_up (ck_cV V nr k9) 13 (upd (V 13) 1 (ck_cct V nr (k9 + 1)))) 5 (upd (ck_cb5 V nr k9) k9 (ck_cn V nr k9)) := by
              rw [ck_cb5_yes c_39]; unfold ck_cV; funext j; by_cases h5 : j = 5 <;> by_cases h13 : j = 13 <;> simp [va_up, h5, h13]
            rw [e8]; exact hM
          have e9 : ck_csm V nr (k9 + 1) = ck_csm V nr k9 + (ck_cn V nr k9 - V 5 k9) := by simp only [ck_csm]; rw [if_neg c_39]
          have hl : lv_has ls 4 [(2, .int (nI (k9 + 1))), (1, .int (ck_csm V nr (k9 + 1))), (3, .int (ck_cn V nr k9)), (0, .ref (ad 30))] := by rw [e9]; exact hl
          exact ih9 ls H locs (lv_sub hl [0, 1, 3] rfl) ⟨hS, F_83, hW, hM, hsm⟩
        · skip
          refine lv_iconst (v := 0) hx hb dX5_correct_68 (by decide) ?_
          refine lv_goto (tgt := 73) hx hb dX5_correct_69 (by decide) ?_
          refine lv_iadd hx hb dX5_correct_73 ?_
          refine lv_topi (fun y9 ey9 => ?_)
          have ey8 : y9 = ck_cct V nr (k9 + 1) := ey9.trans (by simp only [ck_cct]; rw [if_pos (Or.inr c_65), Int32.add_zero])
          subst ey8
          refine ck_put (v := .int (ck_cct V nr (k9 + 1))) (ty := .int) hx hb hts hinX5 tyX5 tyX5_ok nmX5 hown hK hW hS (hM.n 30 (by decide) (by decide)) hM.f30 rfl 14 (by decide) (hts _ (List.mem_of_getElem? (i := 4) rfl)) rfl rfl (by decide +kernel) rfl rfl (Nat.le_of_ble_eq_true rfl) dX5_correct_74 (fun H locs hW hS hz74 => ?_)
          obtain ⟨F_74, hFe74, hFo74, hW⟩ := ck_name hW
          have hM := hM.setB hFe74 hFo74 (g := upd (V 13) 1 (ck_cct V nr (k9 + 1))) rfl rfl
          have hsm := hsm.put (by decide) hFo74
          have hKK := hKK0.keep hS.2.1
          refine lv_aload_n hx hb dX5_correct_77 rfl (lv_at hl 3 rfl) ?_
          refine ck_get (v := .ref (ad 41)) hx hb hts hinX5 hown hK hW (hM.n 30 (by decide) (by decide)) hM.f30 rfl 12 (by decide) (hts _ (List.mem_of_getElem? (i := 3) rfl)) rfl rfl dX5_correct_78 ?_
          refine lv_iload_n hx hb dX5_correct_81 rfl (lv_at hl 2 rfl) ?_
          refine lv_iload_n hx hb dX5_correct_82 rfl (lv_at hl 1 rfl) ?_
          refine ck_iast hx hb hK hW hS (hM.n 41 (by decide) (by decide)) hM.f41 k9 (rfl) (by have := hM.nc; omega) (by decide) dX5_correct_83 (fun H locs hW hS hz83 => ?_)
          obtain ⟨F_83, hFe83, hFo83, hW⟩ := ck_name hW
          have hM := hM.set41 hFe83 hFo83
          have hsm := hsm.put (by decide) hFo83
          have hKK := hKK0.keep hS.2.1
          refine lv_iinc (v := nI (k9 + 1)) (lv' := [(2, .int (nI (k9 + 1))), (1, .int (((ck_csm V nr k9)) + ((((ck_cn V nr k9)) - ((V 5 k9)))))), (3, .int (ck_cn V nr k9)), (0, .ref (ad 30))]) hx hb dX5_correct_84 hl (k := 2) rfl (nI_1 k9) (by decide) rfl (fun ls hl => ?_)
          refine lv_goto (tgt := 9) hx hb dX5_correct_87 (by decide) ?_
          have hM : ck_M G ad (ck_cV V nr (k9 + 1)) L nc nr 0 N F_83 := by
            have e8 : ck_cV V nr (k9 + 1) = va_up (va_up (ck_cV V nr k9) 13 (upd (V 13) 1 (ck_cct V nr (k9 + 1)))) 5 (upd (ck_cb5 V nr k9) k9 (ck_cn V nr k9)) := by
              rw [ck_cb5_yes c_39]; unfold ck_cV; funext j; by_cases h5 : j = 5 <;> by_cases h13 : j = 13 <;> simp [va_up, h5, h13]
            rw [e8]; exact hM
          have e9 : ck_csm V nr (k9 + 1) = ck_csm V nr k9 + (ck_cn V nr k9 - V 5 k9) := by simp only [ck_csm]; rw [if_neg c_39]
          have hl : lv_has ls 4 [(2, .int (nI (k9 + 1))), (1, .int (ck_csm V nr (k9 + 1))), (3, .int (ck_cn V nr k9)), (0, .ref (ad 30))] := by rw [e9]; exact hl
          exact ih9 ls H locs (lv_sub hl [0, 1, 3] rfl) ⟨hS, F_83, hW, hM, hsm⟩
