set_option maxHeartbeats 4000000 in
set_option maxRecDepth 100000 in
theorem ct_L_setBound (l : Launch) (G : ck_G) (H : Heap) (ad : Nat → Nat) (N : Nat → Prop) (F : Nat → va_E) (hW : ck_W G ad N F H) (V : Nat → Nat → Int32) (L : Nat → Nat → Int64) (nc nr : Nat) (hC : ck_C G ad V L nc nr N F) (hlt : l.stackTraces = false) (hN52 : N 52) (g : Nat → Int64) (hF52 : F 52 = .inl (G.2.1 1, 1, .inr (.inl g))) (a0 : Int32) : vx_Met l yL_setBound wsL_setBound ({ frames := 7, cells := 1, slots := 6, locals := 112 }) (ck_P G H [.ref (ad 0), .int a0, .ref (ad 52)]) (ck_Qi G (ck_wrp G ad N F (ck_wr (fun k r V1 => ck_Rset V a0 k r V1) L nc nr))) (fun _ _ _ => False) 1 6 (ck_A G) := by
  refine vx_ofWH (cc := cL_setBound) (maxL := 4) (ret := (some .int)) (hh := [(0, 9, 12, 13)]) (by decide) rfl ?_
  intro p e s m args below meth c s₁ B hml hv
  obtain ⟨rfl, hH, hKK⟩ := hv
  subst hH
  have hx := B.exec
  have hb := B.bytes
  have hr := B.returns
  have hts := atoms_spec (ws := wsL_setBound) B.pre
  have hown : s.vm.findClass RL = some m.cls := findClass_of_methodNamed B.named
  have hlocks := B.notSynchronized
  have hKK0 := hKK
  have hK := hKK.1.1
  have hS : va_S (ck_A G) s.heap s.heap [] := va_S.rf
  have htab : c.exceptionTable.toList = tableOf [(0, 9, 12, 13)] := vx_table (x := yL_setBound) B (hts _ List.mem_cons_self)
  have hl := lv_entry ([.ref (ad 0), .int a0, .ref (ad 52)]) (n := 4) (Nat.le_of_ble_eq_true rfl)
  rw [lg_entry_eq]
  generalize (lg_sl ([.ref (ad 0), .int a0, .ref (ad 52)]) ++ List.replicate (4 - (lg_sl ([.ref (ad 0), .int a0, .ref (ad 52)])).length) Slot.unset).toArray = ls at hl ⊢
  have hl : lv_has ls 4 [(0, .ref (ad 0)), (1, .int a0), (2, .ref (ad 52))] := hl
  refine lv_aload_n hx hb dL_setBound_0 rfl (lv_at hl 2 rfl) ?_
  refine lv_iconst (v := 0) hx hb dL_setBound_1 (by decide) ?_
  refine lv_aload_n hx hb dL_setBound_2 rfl (lv_at hl 0 rfl) ?_
  refine lv_iload_n hx hb dL_setBound_3 rfl (lv_at hl 1 rfl) ?_
  refine ck_cXi (As := [.int a0]) (rest := [.int 0, .ref (ad 52)]) ⟨hx, hb, hml, hown, hts⟩ hKK (ct_X4_setBound l G s.heap ad N F hW V L nc nr hC hlt a0) (cwV 1 hts gL_setBound_X4_setBound rfl rfl rfl (by decide +kernel) ⟨Nat.le_of_ble_eq_true rfl, Nat.le_of_ble_eq_true rfl⟩) (ck_recv hK hW (hC.n 0 (by decide)) hC.f0 rfl) rfl hl rfl (Nat.le_of_ble_eq_true rfl) dL_setBound_4 ⟨Nat.le_of_ble_eq_true rfl, Nat.le_of_ble_eq_true rfl⟩ hS (fun E ce q9 H locs hP hW hS hce hcv hcl => ?_) (fun r H locs hP hz hS => ?_)
  · obtain ⟨k, r, hR, hE⟩ := hP
    obtain ⟨rfl, rfl⟩ := hE
    refine vx_catch (name := ck_IAE) hown [] ⟨0, 9, 12, 13⟩ [] (by rw [htab]; rfl) (fun z hz => nomatch hz) (by decide) (by decide) (hts _ (List.mem_of_getElem? (i := 1) rfl)) ((hKK0.1.2.2.2.1.1 ck_IAE (List.mem_of_getElem? (i := 0) rfl)).use rfl) hce hcv hcl ?_
    refine ck_pc (q := 12) rfl ?_
    refine lv_astore_n (lv' := [(3, .ref q9), (0, .ref (ad 0)), (1, .int a0), (2, .ref (ad 52))]) hx hb dL_setBound_12 rfl hl (by decide) rfl (fun ls hl => ?_)
    refine lv_iconst (v := 1) hx hb dL_setBound_13 (by decide) ?_
    exact vx_ret (W.iret (v := 1) hx hb hr (fun t ht hW9 => ⟨⟨_, rfl, by rw [ht]; exact ck_wrp.no (by decide) ⟨hR, rfl, rfl, rfl⟩ hF52 hW hC⟩, hS.F ht⟩) hS.2.2 dL_setBound_14)
  · obtain ⟨V1, F1, hR, hW, hC, hs⟩ := hP
    refine lv_i2l (v := (r : Int32).toInt64) hx hb dL_setBound_7 rfl ?_
    refine ck_last hx hb hK hW hS hN52 ((hs 52 (by decide) (by decide)).trans hF52) 0 (by decide) (by decide) (by decide) dL_setBound_8 (fun H locs hW hS hz2 => ?_)
    obtain ⟨F2, hFe, hFo, hW⟩ := ck_name hW
    refine lv_goto (tgt := 15) hx hb dL_setBound_9 (by decide) ?_
    refine lv_iconst (v := 0) hx hb dL_setBound_15 (by decide) ?_
    exact vx_ret (W.iret (v := 0) hx hb hr (fun t ht hW9 => ⟨⟨_, rfl, by rw [ht]; exact ck_wrp.yes ⟨hR, rfl, rfl, rfl⟩ (fun _ h => h) hs hFe hFo hW hC⟩, hS.F ht⟩) hS.2.2 dL_setBound_16)
set_option maxHeartbeats 4000000 in
set_option maxRecDepth 100000 in
theorem ct_L_record (l : Launch) (G : ck_G) (H : Heap) (ad : Nat → Nat) (N : Nat → Prop) (F : Nat → va_E) (hW : ck_W G ad N F H) (V : Nat → Nat → Int32) (L : Nat → Nat → Int64) (nc nr : Nat) (hC : ck_C G ad V L nc nr N F) (hlt : l.stackTraces = false) (hN52 : N 52) (g : Nat → Int64) (hF52 : F 52 = .inl (G.2.1 1, 1, .inr (.inl g))) (a0 a1 a2 a3 a4 : Int32) (hfr : nc < 60 → V 3 nc = 0 ∧ V 4 nc = 0 ∧ V 5 nc = -1 ∧ V 6 nc = 0) (hnw : ¬ N (100 + nc)) (haw : ad (100 + nc) = H.size) : vx_Met l yL_record wsL_record ({ frames := 7, cells := 2, slots := 14, locals := 117 }) (ck_P G H [.ref (ad 0), .int a0, .int a1, .int a2, .int a3, .int a4, .ref (ad 52)]) (ck_Qi G (ck_wrp G ad N F (ck_we (fun k r V1 L1 nc1 => ck_RrecC V L nc a0 a1 a2 a3 a4 k r V1 L1 nc1) nr))) (fun _ _ _ => False) 2 14 (ck_A G) := by
  refine vx_ofWH (cc := cL_record) (maxL := 8) (ret := (some .int)) (hh := [(0, 16, 19, 13), (0, 16, 23, 19)]) (by decide) rfl ?_
  intro p e s m args below meth c s₁ B hml hv
  obtain ⟨rfl, hH, hKK⟩ := hv
  subst hH
  have hx := B.exec
  have hb := B.bytes
  have hr := B.returns
  have hts := atoms_spec (ws := wsL_record) B.pre
  have hown : s.vm.findClass RL = some m.cls := findClass_of_methodNamed B.named
  have hlocks := B.notSynchronized
  have hKK0 := hKK
  have hK := hKK.1.1
  have hS : va_S (ck_A G) s.heap s.heap [] := va_S.rf
  have htab : c.exceptionTable.toList = tableOf [(0, 16, 19, 13), (0, 16, 23, 19)] := vx_table (x := yL_record) B (hts _ List.mem_cons_self)
  have hl := lv_entry ([.ref (ad 0), .int a0, .int a1, .int a2, .int a3, .int a4, .ref (ad 52)]) (n := 8) (Nat.le_of_ble_eq_true rfl)
  rw [lg_entry_eq]
  generalize (lg_sl ([.ref (ad 0), .int a0, .int a1, .int a2, .int a3, .int a4, .ref (ad 52)]) ++ List.replicate (8 - (lg_sl ([.ref (ad 0), .int a0, .int a1, .int a2, .int a3, .int a4, .ref (ad 52)])).length) Slot.unset).toArray = ls at hl ⊢
  have hl : lv_has ls 8 [(0, .ref (ad 0)), (1, .int a0), (2, .int a1), (3, .int a2), (4, .int a3), (5, .int a4), (6, .ref (ad 52))] := hl
  refine lv_aload hx hb dL_record_0 (lv_at hl 6 rfl) ?_
  refine lv_iconst (v := 0) hx hb dL_record_2 (by decide) ?_
  refine lv_aload_n hx hb dL_record_3 rfl (lv_at hl 0 rfl) ?_
  refine lv_iload_n hx hb dL_record_4 rfl (lv_at hl 1 rfl) ?_
  refine lv_iload_n hx hb dL_record_5 rfl (lv_at hl 2 rfl) ?_
  refine lv_iload_n hx hb dL_record_6 rfl (lv_at hl 3 rfl) ?_
  refine lv_iload hx hb dL_record_7 (lv_at hl 4 rfl) ?_
  refine lv_iload hx hb dL_record_9 (lv_at hl 5 rfl) ?_
  refine ck_cXi (As := [.int a0, .int a1, .int a2, .int a3, .int a4]) (rest := [.int 0, .ref (ad 52)]) ⟨hx, hb, hml, hown, hts⟩ hKK (ct_X4_record l G s.heap ad N F hW V L nc nr hC hlt a0 a1 a2 a3 a4 hfr hnw haw) (cwV 5 hts gL_record_X4_record rfl rfl rfl (by decide +kernel) ⟨Nat.le_of_ble_eq_true rfl, Nat.le_of_ble_eq_true rfl⟩) (ck_recv hK hW (hC.n 0 (by decide)) hC.f0 rfl) rfl hl rfl (Nat.le_of_ble_eq_true rfl) dL_record_11 ⟨Nat.le_of_ble_eq_true rfl, Nat.le_of_ble_eq_true rfl⟩ hS (fun E ce q9 H locs hP hW hS hce hcv hcl => ?_) (fun r H locs hP hz hS => ?_)
  · obtain ⟨k, r, hR, hE⟩ := hP
    rcases hE with ⟨rfl, rfl⟩ | ⟨rfl, rfl⟩
    · skip
      refine vx_catch (name := ck_IAE) hown [] ⟨0, 16, 19, 13⟩ [⟨0, 16, 23, 19⟩] (by rw [htab]; rfl) (fun z hz => nomatch hz) (by decide) (by decide) (hts _ (List.mem_of_getElem? (i := 1) rfl)) ((hKK0.1.2.2.2.1.1 ck_IAE (List.mem_of_getElem? (i := 0) rfl)).use rfl) hce hcv hcl ?_
      refine ck_pc (q := 19) rfl ?_
      refine lv_astore (lv' := [(7, .ref q9), (0, .ref (ad 0)), (1, .int a0), (2, .int a1), (3, .int a2), (4, .int a3), (5, .int a4), (6, .ref (ad 52))]) hx hb dL_record_19 hl (by decide) rfl (fun ls hl => ?_)
      refine lv_iconst (v := 1) hx hb dL_record_21 (by decide) ?_
      exact vx_ret (W.iret (v := 1) hx hb hr (fun t ht hW9 => ⟨⟨_, rfl, by rw [ht]; exact ck_wrp.no (by decide) ⟨hR, rfl⟩ hF52 hW hC⟩, hS.F ht⟩) hS.2.2 dL_record_22)
    · skip
      refine vx_catch (name := ck_ISE) hown [⟨0, 16, 19, 13⟩] ⟨0, 16, 23, 19⟩ [] (by rw [htab]; rfl) (fun z hz => by cases List.mem_singleton.mp hz; exact Or.inr ⟨by decide, ck_IAE, (hts _ (List.mem_of_getElem? (i := 1) rfl)), hKK0.1.2.2.2.2.1 (ck_ISE, ck_IAE) (List.mem_of_getElem? (i := 0) rfl)⟩) (by decide) (by decide) (hts _ (List.mem_of_getElem? (i := 2) rfl)) ((hKK0.1.2.2.2.1.1 ck_ISE (List.mem_of_getElem? (i := 1) rfl)).use rfl) hce hcv hcl ?_
      refine ck_pc (q := 23) rfl ?_
      refine lv_astore (lv' := [(7, .ref q9), (0, .ref (ad 0)), (1, .int a0), (2, .int a1), (3, .int a2), (4, .int a3), (5, .int a4), (6, .ref (ad 52))]) hx hb dL_record_23 hl (by decide) rfl (fun ls hl => ?_)
      refine lv_iconst (v := 2) hx hb dL_record_25 (by decide) ?_
      exact vx_ret (W.iret (v := 2) hx hb hr (fun t ht hW9 => ⟨⟨_, rfl, by rw [ht]; exact ck_wrp.no (by decide) ⟨hR, rfl⟩ hF52 hW hC⟩, hS.F ht⟩) hS.2.2 dL_record_26)
  · obtain ⟨V1, L1, nc1, N1, F1, hR, hNs, -, hW, hC, hs⟩ := hP
    refine lv_i2l (v := (r : Int32).toInt64) hx hb dL_record_14 rfl ?_
    refine ck_last hx hb hK hW hS (hNs _ hN52) ((hs 52 (by decide) (by decide)).trans hF52) 0 (by decide) (by decide) (by decide) dL_record_15 (fun H locs hW hS hz2 => ?_)
    obtain ⟨F2, hFe, hFo, hW⟩ := ck_name hW
    refine lv_goto (tgt := 27) hx hb dL_record_16 (by decide) ?_
    refine lv_iconst (v := 0) hx hb dL_record_27 (by decide) ?_
    exact vx_ret (W.iret (v := 0) hx hb hr (fun t ht hW9 => ⟨⟨_, rfl, by rw [ht]; exact ck_wrp.yes ⟨hR, rfl⟩ hNs hs hFe hFo hW hC⟩, hS.F ht⟩) hS.2.2 dL_record_28)
set_option maxHeartbeats 4000000 in
set_option maxRecDepth 100000 in
theorem ct_L_gaps (l : Launch) (G : ck_G) (H : Heap) (ad : Nat → Nat) (N : Nat → Prop) (F : Nat → va_E) (hW : ck_W G ad N F H) (V : Nat → Nat → Int32) (L : Nat → Nat → Int64) (nc nr : Nat) (hC : ck_C G ad V L nc nr N F) (hlt : l.stackTraces = false) (hN52 : N 52) (g : Nat → Int64) (hF52 : F 52 = .inl (G.2.1 1, 1, .inr (.inl g))) (a0 : Int32) : vx_Met l yL_gaps wsL_gaps ({ frames := 7, cells := 1, slots := 6, locals := 112 }) (ck_P G H [.ref (ad 0), .int a0, .ref (ad 52)]) (ck_Qi G (ck_wrp G ad N F (ck_ro (fun k r => ck_Rgaps (V 14) (V 16) (V 17) a0 k r) V L nc nr))) (fun _ _ _ => False) 1 6 (ck_A G) := by
  refine vx_ofWH (cc := cL_gaps) (maxL := 4) (ret := (some .int)) (hh := [(0, 9, 12, 13)]) (by decide) rfl ?_
  intro p e s m args below meth c s₁ B hml hv
  obtain ⟨rfl, hH, hKK⟩ := hv
  subst hH
  have hx := B.exec
  have hb := B.bytes
  have hr := B.returns
  have hts := atoms_spec (ws := wsL_gaps) B.pre
  have hown : s.vm.findClass RL = some m.cls := findClass_of_methodNamed B.named
  have hlocks := B.notSynchronized
  have hKK0 := hKK
  have hK := hKK.1.1
  have hS : va_S (ck_A G) s.heap s.heap [] := va_S.rf
  have htab : c.exceptionTable.toList = tableOf [(0, 9, 12, 13)] := vx_table (x := yL_gaps) B (hts _ List.mem_cons_self)
  have hl := lv_entry ([.ref (ad 0), .int a0, .ref (ad 52)]) (n := 4) (Nat.le_of_ble_eq_true rfl)
  rw [lg_entry_eq]
  generalize (lg_sl ([.ref (ad 0), .int a0, .ref (ad 52)]) ++ List.replicate (4 - (lg_sl ([.ref (ad 0), .int a0, .ref (ad 52)])).length) Slot.unset).toArray = ls at hl ⊢
  have hl : lv_has ls 4 [(0, .ref (ad 0)), (1, .int a0), (2, .ref (ad 52))] := hl
  refine lv_aload_n hx hb dL_gaps_0 rfl (lv_at hl 2 rfl) ?_
  refine lv_iconst (v := 0) hx hb dL_gaps_1 (by decide) ?_
  refine lv_aload_n hx hb dL_gaps_2 rfl (lv_at hl 0 rfl) ?_
  refine lv_iload_n hx hb dL_gaps_3 rfl (lv_at hl 1 rfl) ?_
  refine ck_cXi (As := [.int a0]) (rest := [.int 0, .ref (ad 52)]) ⟨hx, hb, hml, hown, hts⟩ hKK (ct_X4_gaps l G s.heap ad N F hW V L nc nr hC hlt a0) (cwV 1 hts gL_gaps_X4_gaps rfl rfl rfl (by decide +kernel) ⟨Nat.le_of_ble_eq_true rfl, Nat.le_of_ble_eq_true rfl⟩) (ck_recv hK hW (hC.n 0 (by decide)) hC.f0 rfl) rfl hl rfl (Nat.le_of_ble_eq_true rfl) dL_gaps_4 ⟨Nat.le_of_ble_eq_true rfl, Nat.le_of_ble_eq_true rfl⟩ hS (fun E ce q9 H locs hP hW hS hce hcv hcl => ?_) (fun r H locs hP hz hS => ?_)
  · obtain ⟨k, r, hR, hE⟩ := hP
    obtain ⟨rfl, rfl⟩ := hE
    refine vx_catch (name := ck_IAE) hown [] ⟨0, 9, 12, 13⟩ [] (by rw [htab]; rfl) (fun z hz => nomatch hz) (by decide) (by decide) (hts _ (List.mem_of_getElem? (i := 1) rfl)) ((hKK0.1.2.2.2.1.1 ck_IAE (List.mem_of_getElem? (i := 0) rfl)).use rfl) hce hcv hcl ?_
    refine ck_pc (q := 12) rfl ?_
    refine lv_astore_n (lv' := [(3, .ref q9), (0, .ref (ad 0)), (1, .int a0), (2, .ref (ad 52))]) hx hb dL_gaps_12 rfl hl (by decide) rfl (fun ls hl => ?_)
    refine lv_iconst (v := 1) hx hb dL_gaps_13 (by decide) ?_
    exact vx_ret (W.iret (v := 1) hx hb hr (fun t ht hW9 => ⟨⟨_, rfl, by rw [ht]; exact ck_wrp.no (by decide) ⟨hR, rfl, rfl, rfl, rfl⟩ hF52 hW hC⟩, hS.F ht⟩) hS.2.2 dL_gaps_14)
  · obtain ⟨hR, hW⟩ := hP
    refine lv_i2l (v := (r : Int32).toInt64) hx hb dL_gaps_7 rfl ?_
    refine ck_last hx hb hK hW hS hN52 hF52 0 (by decide) (by decide) (by decide) dL_gaps_8 (fun H locs hW hS hz2 => ?_)
    obtain ⟨F2, hFe, hFo, hW⟩ := ck_name hW
    refine lv_goto (tgt := 15) hx hb dL_gaps_9 (by decide) ?_
    refine lv_iconst (v := 0) hx hb dL_gaps_15 (by decide) ?_
    exact vx_ret (W.iret (v := 0) hx hb hr (fun t ht hW9 => ⟨⟨_, rfl, by rw [ht]; exact ck_wrp.yes ⟨hR, rfl, rfl, rfl, rfl⟩ (fun _ h => h) (fun _ _ _ => rfl) hFe hFo hW hC⟩, hS.F ht⟩) hS.2.2 dL_gaps_16)
set_option maxHeartbeats 4000000 in
set_option maxRecDepth 100000 in
theorem ct_L_doubles (l : Launch) (G : ck_G) (H : Heap) (ad : Nat → Nat) (N : Nat → Prop) (F : Nat → va_E) (hW : ck_W G ad N F H) (V : Nat → Nat → Int32) (L : Nat → Nat → Int64) (nc nr : Nat) (hC : ck_C G ad V L nc nr N F) (hlt : l.stackTraces = false) (hN52 : N 52) (g : Nat → Int64) (hF52 : F 52 = .inl (G.2.1 1, 1, .inr (.inl g))) (a0 : Int32) : vx_Met l yL_doubles wsL_doubles ({ frames := 7, cells := 1, slots := 6, locals := 112 }) (ck_P G H [.ref (ad 0), .int a0, .ref (ad 52)]) (ck_Qi G (ck_wrp G ad N F (ck_ro (fun k r => ck_Rdbl (V 15) a0 k r) V L nc nr))) (fun _ _ _ => False) 1 6 (ck_A G) := by
  refine vx_ofWH (cc := cL_doubles) (maxL := 4) (ret := (some .int)) (hh := [(0, 9, 12, 13)]) (by decide) rfl ?_
  intro p e s m args below meth c s₁ B hml hv
  obtain ⟨rfl, hH, hKK⟩ := hv
  subst hH
  have hx := B.exec
  have hb := B.bytes
  have hr := B.returns
  have hts := atoms_spec (ws := wsL_doubles) B.pre
  have hown : s.vm.findClass RL = some m.cls := findClass_of_methodNamed B.named
  have hlocks := B.notSynchronized
  have hKK0 := hKK
  have hK := hKK.1.1
  have hS : va_S (ck_A G) s.heap s.heap [] := va_S.rf
  have htab : c.exceptionTable.toList = tableOf [(0, 9, 12, 13)] := vx_table (x := yL_doubles) B (hts _ List.mem_cons_self)
  have hl := lv_entry ([.ref (ad 0), .int a0, .ref (ad 52)]) (n := 4) (Nat.le_of_ble_eq_true rfl)
  rw [lg_entry_eq]
  generalize (lg_sl ([.ref (ad 0), .int a0, .ref (ad 52)]) ++ List.replicate (4 - (lg_sl ([.ref (ad 0), .int a0, .ref (ad 52)])).length) Slot.unset).toArray = ls at hl ⊢
  have hl : lv_has ls 4 [(0, .ref (ad 0)), (1, .int a0), (2, .ref (ad 52))] := hl
  refine lv_aload_n hx hb dL_doubles_0 rfl (lv_at hl 2 rfl) ?_
  refine lv_iconst (v := 0) hx hb dL_doubles_1 (by decide) ?_
  refine lv_aload_n hx hb dL_doubles_2 rfl (lv_at hl 0 rfl) ?_
  refine lv_iload_n hx hb dL_doubles_3 rfl (lv_at hl 1 rfl) ?_
  refine ck_cXi (As := [.int a0]) (rest := [.int 0, .ref (ad 52)]) ⟨hx, hb, hml, hown, hts⟩ hKK (ct_X4_doubles l G s.heap ad N F hW V L nc nr hC hlt a0) (cwV 1 hts gL_doubles_X4_doubles rfl rfl rfl (by decide +kernel) ⟨Nat.le_of_ble_eq_true rfl, Nat.le_of_ble_eq_true rfl⟩) (ck_recv hK hW (hC.n 0 (by decide)) hC.f0 rfl) rfl hl rfl (Nat.le_of_ble_eq_true rfl) dL_doubles_4 ⟨Nat.le_of_ble_eq_true rfl, Nat.le_of_ble_eq_true rfl⟩ hS (fun E ce q9 H locs hP hW hS hce hcv hcl => ?_) (fun r H locs hP hz hS => ?_)
  · obtain ⟨k, r, hR, hE⟩ := hP
    obtain ⟨rfl, rfl⟩ := hE
    refine vx_catch (name := ck_IAE) hown [] ⟨0, 9, 12, 13⟩ [] (by rw [htab]; rfl) (fun z hz => nomatch hz) (by decide) (by decide) (hts _ (List.mem_of_getElem? (i := 1) rfl)) ((hKK0.1.2.2.2.1.1 ck_IAE (List.mem_of_getElem? (i := 0) rfl)).use rfl) hce hcv hcl ?_
    refine ck_pc (q := 12) rfl ?_
    refine lv_astore_n (lv' := [(3, .ref q9), (0, .ref (ad 0)), (1, .int a0), (2, .ref (ad 52))]) hx hb dL_doubles_12 rfl hl (by decide) rfl (fun ls hl => ?_)
    refine lv_iconst (v := 1) hx hb dL_doubles_13 (by decide) ?_
    exact vx_ret (W.iret (v := 1) hx hb hr (fun t ht hW9 => ⟨⟨_, rfl, by rw [ht]; exact ck_wrp.no (by decide) ⟨hR, rfl, rfl, rfl, rfl⟩ hF52 hW hC⟩, hS.F ht⟩) hS.2.2 dL_doubles_14)
  · obtain ⟨hR, hW⟩ := hP
    refine lv_i2l (v := (r : Int32).toInt64) hx hb dL_doubles_7 rfl ?_
    refine ck_last hx hb hK hW hS hN52 hF52 0 (by decide) (by decide) (by decide) dL_doubles_8 (fun H locs hW hS hz2 => ?_)
    obtain ⟨F2, hFe, hFo, hW⟩ := ck_name hW
    refine lv_goto (tgt := 15) hx hb dL_doubles_9 (by decide) ?_
    refine lv_iconst (v := 0) hx hb dL_doubles_15 (by decide) ?_
    exact vx_ret (W.iret (v := 0) hx hb hr (fun t ht hW9 => ⟨⟨_, rfl, by rw [ht]; exact ck_wrp.yes ⟨hR, rfl, rfl, rfl, rfl⟩ (fun _ h => h) (fun _ _ _ => rfl) hFe hFo hW hC⟩, hS.F ht⟩) hS.2.2 dL_doubles_16)
set_option maxHeartbeats 4000000 in
set_option maxRecDepth 100000 in
theorem ct_L_legs (l : Launch) (G : ck_G) (H : Heap) (ad : Nat → Nat) (N : Nat → Prop) (F : Nat → va_E) (hW : ck_W G ad N F H) (V : Nat → Nat → Int32) (L : Nat → Nat → Int64) (nc nr : Nat) (hC : ck_C G ad V L nc nr N F) (hlt : l.stackTraces = false) (hN52 : N 52) (g : Nat → Int64) (hF52 : F 52 = .inl (G.2.1 1, 1, .inr (.inl g))) (a0 : Int32) : vx_Met l yL_legs wsL_legs ({ frames := 7, cells := 1, slots := 6, locals := 112 }) (ck_P G H [.ref (ad 0), .int a0, .ref (ad 52)]) (ck_Qi G (ck_wrp G ad N F (ck_ro (fun k r => ck_Rcall nc (V 3) a0 k r) V L nc nr))) (fun _ _ _ => False) 1 6 (ck_A G) := by
  refine vx_ofWH (cc := cL_legs) (maxL := 4) (ret := (some .int)) (hh := [(0, 9, 12, 30)]) (by decide) rfl ?_
  intro p e s m args below meth c s₁ B hml hv
  obtain ⟨rfl, hH, hKK⟩ := hv
  subst hH
  have hx := B.exec
  have hb := B.bytes
  have hr := B.returns
  have hts := atoms_spec (ws := wsL_legs) B.pre
  have hown : s.vm.findClass RL = some m.cls := findClass_of_methodNamed B.named
  have hlocks := B.notSynchronized
  have hKK0 := hKK
  have hK := hKK.1.1
  have hS : va_S (ck_A G) s.heap s.heap [] := va_S.rf
  have htab : c.exceptionTable.toList = tableOf [(0, 9, 12, 30)] := vx_table (x := yL_legs) B (hts _ List.mem_cons_self)
  have hl := lv_entry ([.ref (ad 0), .int a0, .ref (ad 52)]) (n := 4) (Nat.le_of_ble_eq_true rfl)
  rw [lg_entry_eq]
  generalize (lg_sl ([.ref (ad 0), .int a0, .ref (ad 52)]) ++ List.replicate (4 - (lg_sl ([.ref (ad 0), .int a0, .ref (ad 52)])).length) Slot.unset).toArray = ls at hl ⊢
  have hl : lv_has ls 4 [(0, .ref (ad 0)), (1, .int a0), (2, .ref (ad 52))] := hl
  refine lv_aload_n hx hb dL_legs_0 rfl (lv_at hl 2 rfl) ?_
  refine lv_iconst (v := 0) hx hb dL_legs_1 (by decide) ?_
  refine lv_aload_n hx hb dL_legs_2 rfl (lv_at hl 0 rfl) ?_
  refine lv_iload_n hx hb dL_legs_3 rfl (lv_at hl 1 rfl) ?_
  refine ck_cXi (As := [.int a0]) (rest := [.int 0, .ref (ad 52)]) ⟨hx, hb, hml, hown, hts⟩ hKK (ct_X4_legs l G s.heap ad N F hW V L nc nr hC hlt a0) (cwV 1 hts gL_legs_X4_legs rfl rfl rfl (by decide +kernel) ⟨Nat.le_of_ble_eq_true rfl, Nat.le_of_ble_eq_true rfl⟩) (ck_recv hK hW (hC.n 0 (by decide)) hC.f0 rfl) rfl hl rfl (Nat.le_of_ble_eq_true rfl) dL_legs_4 ⟨Nat.le_of_ble_eq_true rfl, Nat.le_of_ble_eq_true rfl⟩ hS (fun E ce q9 H locs hP hW hS hce hcv hcl => ?_) (fun r H locs hP hz hS => ?_)
  · obtain ⟨k, r, hR, hE⟩ := hP
    obtain ⟨rfl, rfl⟩ := hE
    refine vx_catch (name := ck_IOB) hown [] ⟨0, 9, 12, 30⟩ [] (by rw [htab]; rfl) (fun z hz => nomatch hz) (by decide) (by decide) (hts _ (List.mem_of_getElem? (i := 1) rfl)) ((hKK0.1.2.2.2.1.1 ck_IOB (List.mem_of_getElem? (i := 2) rfl)).use rfl) hce hcv hcl ?_
    refine ck_pc (q := 12) rfl ?_
    refine lv_astore_n (lv' := [(3, .ref q9), (0, .ref (ad 0)), (1, .int a0), (2, .ref (ad 52))]) hx hb dL_legs_12 rfl hl (by decide) rfl (fun ls hl => ?_)
    refine lv_iconst (v := 1) hx hb dL_legs_13 (by decide) ?_
    exact vx_ret (W.iret (v := 1) hx hb hr (fun t ht hW9 => ⟨⟨_, rfl, by rw [ht]; exact ck_wrp.no (by decide) ⟨hR, rfl, rfl, rfl, rfl⟩ hF52 hW hC⟩, hS.F ht⟩) hS.2.2 dL_legs_14)
  · obtain ⟨hR, hW⟩ := hP
    refine lv_i2l (v := (r : Int32).toInt64) hx hb dL_legs_7 rfl ?_
    refine ck_last hx hb hK hW hS hN52 hF52 0 (by decide) (by decide) (by decide) dL_legs_8 (fun H locs hW hS hz2 => ?_)
    obtain ⟨F2, hFe, hFo, hW⟩ := ck_name hW
    refine lv_goto (tgt := 15) hx hb dL_legs_9 (by decide) ?_
    refine lv_iconst (v := 0) hx hb dL_legs_15 (by decide) ?_
    exact vx_ret (W.iret (v := 0) hx hb hr (fun t ht hW9 => ⟨⟨_, rfl, by rw [ht]; exact ck_wrp.yes ⟨hR, rfl, rfl, rfl, rfl⟩ (fun _ h => h) (fun _ _ _ => rfl) hFe hFo hW hC⟩, hS.F ht⟩) hS.2.2 dL_legs_16)
set_option maxHeartbeats 4000000 in
set_option maxRecDepth 100000 in
theorem ct_L_length (l : Launch) (G : ck_G) (H : Heap) (ad : Nat → Nat) (N : Nat → Prop) (F : Nat → va_E) (hW : ck_W G ad N F H) (V : Nat → Nat → Int32) (L : Nat → Nat → Int64) (nc nr : Nat) (hC : ck_C G ad V L nc nr N F) (hlt : l.stackTraces = false) (hN52 : N 52) (g : Nat → Int64) (hF52 : F 52 = .inl (G.2.1 1, 1, .inr (.inl g))) (a0 : Int32) : vx_Met l yL_length wsL_length ({ frames := 7, cells := 1, slots := 6, locals := 112 }) (ck_P G H [.ref (ad 0), .int a0, .ref (ad 52)]) (ck_Qi G (ck_wrp G ad N F (ck_ro (fun k r => ck_Rcall nc (V 4) a0 k r) V L nc nr))) (fun _ _ _ => False) 1 6 (ck_A G) := by
  refine vx_ofWH (cc := cL_length) (maxL := 4) (ret := (some .int)) (hh := [(0, 9, 12, 30)]) (by decide) rfl ?_
  intro p e s m args below meth c s₁ B hml hv
  obtain ⟨rfl, hH, hKK⟩ := hv
  subst hH
  have hx := B.exec
  have hb := B.bytes
  have hr := B.returns
  have hts := atoms_spec (ws := wsL_length) B.pre
  have hown : s.vm.findClass RL = some m.cls := findClass_of_methodNamed B.named
  have hlocks := B.notSynchronized
  have hKK0 := hKK
  have hK := hKK.1.1
  have hS : va_S (ck_A G) s.heap s.heap [] := va_S.rf
  have htab : c.exceptionTable.toList = tableOf [(0, 9, 12, 30)] := vx_table (x := yL_length) B (hts _ List.mem_cons_self)
  have hl := lv_entry ([.ref (ad 0), .int a0, .ref (ad 52)]) (n := 4) (Nat.le_of_ble_eq_true rfl)
  rw [lg_entry_eq]
  generalize (lg_sl ([.ref (ad 0), .int a0, .ref (ad 52)]) ++ List.replicate (4 - (lg_sl ([.ref (ad 0), .int a0, .ref (ad 52)])).length) Slot.unset).toArray = ls at hl ⊢
  have hl : lv_has ls 4 [(0, .ref (ad 0)), (1, .int a0), (2, .ref (ad 52))] := hl
  refine lv_aload_n hx hb dL_length_0 rfl (lv_at hl 2 rfl) ?_
  refine lv_iconst (v := 0) hx hb dL_length_1 (by decide) ?_
  refine lv_aload_n hx hb dL_length_2 rfl (lv_at hl 0 rfl) ?_
  refine lv_iload_n hx hb dL_length_3 rfl (lv_at hl 1 rfl) ?_
  refine ck_cXi (As := [.int a0]) (rest := [.int 0, .ref (ad 52)]) ⟨hx, hb, hml, hown, hts⟩ hKK (ct_X4_length l G s.heap ad N F hW V L nc nr hC hlt a0) (cwV 1 hts gL_length_X4_length rfl rfl rfl (by decide +kernel) ⟨Nat.le_of_ble_eq_true rfl, Nat.le_of_ble_eq_true rfl⟩) (ck_recv hK hW (hC.n 0 (by decide)) hC.f0 rfl) rfl hl rfl (Nat.le_of_ble_eq_true rfl) dL_length_4 ⟨Nat.le_of_ble_eq_true rfl, Nat.le_of_ble_eq_true rfl⟩ hS (fun E ce q9 H locs hP hW hS hce hcv hcl => ?_) (fun r H locs hP hz hS => ?_)
  · obtain ⟨k, r, hR, hE⟩ := hP
    obtain ⟨rfl, rfl⟩ := hE
    refine vx_catch (name := ck_IOB) hown [] ⟨0, 9, 12, 30⟩ [] (by rw [htab]; rfl) (fun z hz => nomatch hz) (by decide) (by decide) (hts _ (List.mem_of_getElem? (i := 1) rfl)) ((hKK0.1.2.2.2.1.1 ck_IOB (List.mem_of_getElem? (i := 2) rfl)).use rfl) hce hcv hcl ?_
    refine ck_pc (q := 12) rfl ?_
    refine lv_astore_n (lv' := [(3, .ref q9), (0, .ref (ad 0)), (1, .int a0), (2, .ref (ad 52))]) hx hb dL_length_12 rfl hl (by decide) rfl (fun ls hl => ?_)
    refine lv_iconst (v := 1) hx hb dL_length_13 (by decide) ?_
    exact vx_ret (W.iret (v := 1) hx hb hr (fun t ht hW9 => ⟨⟨_, rfl, by rw [ht]; exact ck_wrp.no (by decide) ⟨hR, rfl, rfl, rfl, rfl⟩ hF52 hW hC⟩, hS.F ht⟩) hS.2.2 dL_length_14)
  · obtain ⟨hR, hW⟩ := hP
    refine lv_i2l (v := (r : Int32).toInt64) hx hb dL_length_7 rfl ?_
    refine ck_last hx hb hK hW hS hN52 hF52 0 (by decide) (by decide) (by decide) dL_length_8 (fun H locs hW hS hz2 => ?_)
    obtain ⟨F2, hFe, hFo, hW⟩ := ck_name hW
    refine lv_goto (tgt := 15) hx hb dL_length_9 (by decide) ?_
    refine lv_iconst (v := 0) hx hb dL_length_15 (by decide) ?_
    exact vx_ret (W.iret (v := 0) hx hb hr (fun t ht hW9 => ⟨⟨_, rfl, by rw [ht]; exact ck_wrp.yes ⟨hR, rfl, rfl, rfl, rfl⟩ (fun _ h => h) (fun _ _ _ => rfl) hFe hFo hW hC⟩, hS.F ht⟩) hS.2.2 dL_length_16)
set_option maxHeartbeats 4000000 in
set_option maxRecDepth 100000 in
theorem ct_L_addRate (l : Launch) (G : ck_G) (H : Heap) (ad : Nat → Nat) (N : Nat → Prop) (F : Nat → va_E) (hW : ck_W G ad N F H) (V : Nat → Nat → Int32) (L : Nat → Nat → Int64) (nc nr : Nat) (hC : ck_C G ad V L nc nr N F) (hlt : l.stackTraces = false) (hN52 : N 52) (g : Nat → Int64) (hF52 : F 52 = .inl (G.2.1 1, 1, .inr (.inl g))) (a0 a1 a2 a3 a4 a5 : Int32) (hnw : ¬ N (200 + nr)) (haw : ad (200 + nr) = H.size) : vx_Met l yL_addRate wsL_addRate ({ frames := 7, cells := 1, slots := 7, locals := 117 }) (ck_P G H [.ref (ad 0), .int a0, .int a1, .int a2, .int a3, .int a4, .int a5, .ref (ad 52)]) (ck_Qi G (ck_wrp G ad N F (ck_wa (fun k r V1 nr1 => ck_Radd V nr a0 a1 a2 a3 a4 a5 k r V1 nr1) L nc))) (fun _ _ _ => False) 1 7 (ck_A G) := by
  refine vx_ofWH (cc := cL_addRate) (maxL := 9) (ret := (some .int)) (hh := [(0, 18, 21, 13), (0, 18, 25, 19)]) (by decide) rfl ?_
  intro p e s m args below meth c s₁ B hml hv
  obtain ⟨rfl, hH, hKK⟩ := hv
  subst hH
  have hx := B.exec
  have hb := B.bytes
  have hr := B.returns
  have hts := atoms_spec (ws := wsL_addRate) B.pre
  have hown : s.vm.findClass RL = some m.cls := findClass_of_methodNamed B.named
  have hlocks := B.notSynchronized
  have hKK0 := hKK
  have hK := hKK.1.1
  have hS : va_S (ck_A G) s.heap s.heap [] := va_S.rf
  have htab : c.exceptionTable.toList = tableOf [(0, 18, 21, 13), (0, 18, 25, 19)] := vx_table (x := yL_addRate) B (hts _ List.mem_cons_self)
  have hl := lv_entry ([.ref (ad 0), .int a0, .int a1, .int a2, .int a3, .int a4, .int a5, .ref (ad 52)]) (n := 9) (Nat.le_of_ble_eq_true rfl)
  rw [lg_entry_eq]
  generalize (lg_sl ([.ref (ad 0), .int a0, .int a1, .int a2, .int a3, .int a4, .int a5, .ref (ad 52)]) ++ List.replicate (9 - (lg_sl ([.ref (ad 0), .int a0, .int a1, .int a2, .int a3, .int a4, .int a5, .ref (ad 52)])).length) Slot.unset).toArray = ls at hl ⊢
  have hl : lv_has ls 9 [(0, .ref (ad 0)), (1, .int a0), (2, .int a1), (3, .int a2), (4, .int a3), (5, .int a4), (6, .int a5), (7, .ref (ad 52))] := hl
  refine lv_aload hx hb dL_addRate_0 (lv_at hl 7 rfl) ?_
  refine lv_iconst (v := 0) hx hb dL_addRate_2 (by decide) ?_
  refine lv_aload_n hx hb dL_addRate_3 rfl (lv_at hl 0 rfl) ?_
  refine lv_iload_n hx hb dL_addRate_4 rfl (lv_at hl 1 rfl) ?_
  refine lv_iload_n hx hb dL_addRate_5 rfl (lv_at hl 2 rfl) ?_
  refine lv_iload_n hx hb dL_addRate_6 rfl (lv_at hl 3 rfl) ?_
  refine lv_iload hx hb dL_addRate_7 (lv_at hl 4 rfl) ?_
  refine lv_iload hx hb dL_addRate_9 (lv_at hl 5 rfl) ?_
  refine lv_iload hx hb dL_addRate_11 (lv_at hl 6 rfl) ?_
  refine ck_cXi (As := [.int a0, .int a1, .int a2, .int a3, .int a4, .int a5]) (rest := [.int 0, .ref (ad 52)]) ⟨hx, hb, hml, hown, hts⟩ hKK (ct_X4_addRate l G s.heap ad N F hW V L nc nr hC hlt a0 a1 a2 a3 a4 a5 hnw haw) (cwV 6 hts gL_addRate_X4_addRate rfl rfl rfl (by decide +kernel) ⟨Nat.le_of_ble_eq_true rfl, Nat.le_of_ble_eq_true rfl⟩) (ck_recv hK hW (hC.n 0 (by decide)) hC.f0 rfl) rfl hl rfl (Nat.le_of_ble_eq_true rfl) dL_addRate_13 ⟨Nat.le_of_ble_eq_true rfl, Nat.le_of_ble_eq_true rfl⟩ hS (fun E ce q9 H locs hP hW hS hce hcv hcl => ?_) (fun r H locs hP hz hS => ?_)
  · obtain ⟨k, r, hR, hE⟩ := hP
    rcases hE with ⟨rfl, rfl⟩ | ⟨rfl, rfl⟩
    · skip
      refine vx_catch (name := ck_IAE) hown [] ⟨0, 18, 21, 13⟩ [⟨0, 18, 25, 19⟩] (by rw [htab]; rfl) (fun z hz => nomatch hz) (by decide) (by decide) (hts _ (List.mem_of_getElem? (i := 1) rfl)) ((hKK0.1.2.2.2.1.1 ck_IAE (List.mem_of_getElem? (i := 0) rfl)).use rfl) hce hcv hcl ?_
      refine ck_pc (q := 21) rfl ?_
      refine lv_astore (lv' := [(8, .ref q9), (0, .ref (ad 0)), (1, .int a0), (2, .int a1), (3, .int a2), (4, .int a3), (5, .int a4), (6, .int a5), (7, .ref (ad 52))]) hx hb dL_addRate_21 hl (by decide) rfl (fun ls hl => ?_)
      refine lv_iconst (v := 1) hx hb dL_addRate_23 (by decide) ?_
      exact vx_ret (W.iret (v := 1) hx hb hr (fun t ht hW9 => ⟨⟨_, rfl, by rw [ht]; exact ck_wrp.no (by decide) ⟨hR, rfl, rfl⟩ hF52 hW hC⟩, hS.F ht⟩) hS.2.2 dL_addRate_24)
    · skip
      refine vx_catch (name := ck_ISE) hown [⟨0, 18, 21, 13⟩] ⟨0, 18, 25, 19⟩ [] (by rw [htab]; rfl) (fun z hz => by cases List.mem_singleton.mp hz; exact Or.inr ⟨by decide, ck_IAE, (hts _ (List.mem_of_getElem? (i := 1) rfl)), hKK0.1.2.2.2.2.1 (ck_ISE, ck_IAE) (List.mem_of_getElem? (i := 0) rfl)⟩) (by decide) (by decide) (hts _ (List.mem_of_getElem? (i := 2) rfl)) ((hKK0.1.2.2.2.1.1 ck_ISE (List.mem_of_getElem? (i := 1) rfl)).use rfl) hce hcv hcl ?_
      refine ck_pc (q := 25) rfl ?_
      refine lv_astore (lv' := [(8, .ref q9), (0, .ref (ad 0)), (1, .int a0), (2, .int a1), (3, .int a2), (4, .int a3), (5, .int a4), (6, .int a5), (7, .ref (ad 52))]) hx hb dL_addRate_25 hl (by decide) rfl (fun ls hl => ?_)
      refine lv_iconst (v := 2) hx hb dL_addRate_27 (by decide) ?_
      exact vx_ret (W.iret (v := 2) hx hb hr (fun t ht hW9 => ⟨⟨_, rfl, by rw [ht]; exact ck_wrp.no (by decide) ⟨hR, rfl, rfl⟩ hF52 hW hC⟩, hS.F ht⟩) hS.2.2 dL_addRate_28)
  · obtain ⟨V1, nr1, N1, F1, hR, hNs, -, hW, hC, hs⟩ := hP
    refine lv_i2l (v := (r : Int32).toInt64) hx hb dL_addRate_16 rfl ?_
    refine ck_last hx hb hK hW hS (hNs _ hN52) ((hs 52 (by decide) (by decide)).trans hF52) 0 (by decide) (by decide) (by decide) dL_addRate_17 (fun H locs hW hS hz2 => ?_)
    obtain ⟨F2, hFe, hFo, hW⟩ := ck_name hW
    refine lv_goto (tgt := 29) hx hb dL_addRate_18 (by decide) ?_
    refine lv_iconst (v := 0) hx hb dL_addRate_29 (by decide) ?_
    exact vx_ret (W.iret (v := 0) hx hb hr (fun t ht hW9 => ⟨⟨_, rfl, by rw [ht]; exact ck_wrp.yes ⟨hR, rfl, rfl⟩ hNs hs hFe hFo hW hC⟩, hS.F ht⟩) hS.2.2 dL_addRate_30)
set_option maxHeartbeats 4000000 in
set_option maxRecDepth 100000 in
theorem ct_L_rateFor (l : Launch) (G : ck_G) (H : Heap) (ad : Nat → Nat) (N : Nat → Prop) (F : Nat → va_E) (hW : ck_W G ad N F H) (V : Nat → Nat → Int32) (L : Nat → Nat → Int64) (nc nr : Nat) (hC : ck_C G ad V L nc nr N F) (hlt : l.stackTraces = false) (hN52 : N 52) (g : Nat → Int64) (hF52 : F 52 = .inl (G.2.1 1, 1, .inr (.inl g))) (a0 a1 : Int32) : vx_Met l yL_rateFor wsL_rateFor ({ frames := 7, cells := 1, slots := 6, locals := 113 }) (ck_P G H [.ref (ad 0), .int a0, .int a1, .ref (ad 52)]) (ck_Qi G (ck_wrp G ad N F (ck_ro (fun k r => ck_Rrate V nr a0 a1 k r) V L nc nr))) (fun _ _ _ => False) 1 6 (ck_A G) := by
  refine vx_ofWH (cc := cL_rateFor) (maxL := 5) (ret := (some .int)) (hh := [(0, 10, 13, 13), (0, 10, 17, 43)]) (by decide) rfl ?_
  intro p e s m args below meth c s₁ B hml hv
  obtain ⟨rfl, hH, hKK⟩ := hv
  subst hH
  have hx := B.exec
  have hb := B.bytes
  have hr := B.returns
  have hts := atoms_spec (ws := wsL_rateFor) B.pre
  have hown : s.vm.findClass RL = some m.cls := findClass_of_methodNamed B.named
  have hlocks := B.notSynchronized
  have hKK0 := hKK
  have hK := hKK.1.1
  have hS : va_S (ck_A G) s.heap s.heap [] := va_S.rf
  have htab : c.exceptionTable.toList = tableOf [(0, 10, 13, 13), (0, 10, 17, 43)] := vx_table (x := yL_rateFor) B (hts _ List.mem_cons_self)
  have hl := lv_entry ([.ref (ad 0), .int a0, .int a1, .ref (ad 52)]) (n := 5) (Nat.le_of_ble_eq_true rfl)
  rw [lg_entry_eq]
  generalize (lg_sl ([.ref (ad 0), .int a0, .int a1, .ref (ad 52)]) ++ List.replicate (5 - (lg_sl ([.ref (ad 0), .int a0, .int a1, .ref (ad 52)])).length) Slot.unset).toArray = ls at hl ⊢
  have hl : lv_has ls 5 [(0, .ref (ad 0)), (1, .int a0), (2, .int a1), (3, .ref (ad 52))] := hl
  refine lv_aload_n hx hb dL_rateFor_0 rfl (lv_at hl 3 rfl) ?_
  refine lv_iconst (v := 0) hx hb dL_rateFor_1 (by decide) ?_
  refine lv_aload_n hx hb dL_rateFor_2 rfl (lv_at hl 0 rfl) ?_
  refine lv_iload_n hx hb dL_rateFor_3 rfl (lv_at hl 1 rfl) ?_
  refine lv_iload_n hx hb dL_rateFor_4 rfl (lv_at hl 2 rfl) ?_
  refine ck_cXi (As := [.int a0, .int a1]) (rest := [.int 0, .ref (ad 52)]) ⟨hx, hb, hml, hown, hts⟩ hKK (ct_X4_rateFor l G s.heap ad N F hW V L nc nr hC hlt a0 a1) (cwV 2 hts gL_rateFor_X4_rateFor rfl rfl rfl (by decide +kernel) ⟨Nat.le_of_ble_eq_true rfl, Nat.le_of_ble_eq_true rfl⟩) (ck_recv hK hW (hC.n 0 (by decide)) hC.f0 rfl) rfl hl rfl (Nat.le_of_ble_eq_true rfl) dL_rateFor_5 ⟨Nat.le_of_ble_eq_true rfl, Nat.le_of_ble_eq_true rfl⟩ hS (fun E ce q9 H locs hP hW hS hce hcv hcl => ?_) (fun r H locs hP hz hS => ?_)
  · obtain ⟨k, r, hR, hE⟩ := hP
    rcases hE with ⟨rfl, rfl⟩ | ⟨rfl, rfl⟩
    · skip
      refine vx_catch (name := ck_IAE) hown [] ⟨0, 10, 13, 13⟩ [⟨0, 10, 17, 43⟩] (by rw [htab]; rfl) (fun z hz => nomatch hz) (by decide) (by decide) (hts _ (List.mem_of_getElem? (i := 1) rfl)) ((hKK0.1.2.2.2.1.1 ck_IAE (List.mem_of_getElem? (i := 0) rfl)).use rfl) hce hcv hcl ?_
      refine ck_pc (q := 13) rfl ?_
      refine lv_astore (lv' := [(4, .ref q9), (0, .ref (ad 0)), (1, .int a0), (2, .int a1), (3, .ref (ad 52))]) hx hb dL_rateFor_13 hl (by decide) rfl (fun ls hl => ?_)
      refine lv_iconst (v := 1) hx hb dL_rateFor_15 (by decide) ?_
      exact vx_ret (W.iret (v := 1) hx hb hr (fun t ht hW9 => ⟨⟨_, rfl, by rw [ht]; exact ck_wrp.no (by decide) ⟨hR, rfl, rfl, rfl, rfl⟩ hF52 hW hC⟩, hS.F ht⟩) hS.2.2 dL_rateFor_16)
    · skip
      refine vx_catch (name := ck_NSE) hown [⟨0, 10, 13, 13⟩] ⟨0, 10, 17, 43⟩ [] (by rw [htab]; rfl) (fun z hz => by cases List.mem_singleton.mp hz; exact Or.inr ⟨by decide, ck_IAE, (hts _ (List.mem_of_getElem? (i := 1) rfl)), hKK0.1.2.2.2.2.1 (ck_NSE, ck_IAE) (List.mem_of_getElem? (i := 1) rfl)⟩) (by decide) (by decide) (hts _ (List.mem_of_getElem? (i := 2) rfl)) ((hKK0.1.2.2.2.1.1 ck_NSE (List.mem_of_getElem? (i := 3) rfl)).use rfl) hce hcv hcl ?_
      refine ck_pc (q := 17) rfl ?_
      refine lv_astore (lv' := [(4, .ref q9), (0, .ref (ad 0)), (1, .int a0), (2, .int a1), (3, .ref (ad 52))]) hx hb dL_rateFor_17 hl (by decide) rfl (fun ls hl => ?_)
      refine lv_iconst (v := 2) hx hb dL_rateFor_19 (by decide) ?_
      exact vx_ret (W.iret (v := 2) hx hb hr (fun t ht hW9 => ⟨⟨_, rfl, by rw [ht]; exact ck_wrp.no (by decide) ⟨hR, rfl, rfl, rfl, rfl⟩ hF52 hW hC⟩, hS.F ht⟩) hS.2.2 dL_rateFor_20)
  · obtain ⟨hR, hW⟩ := hP
    refine lv_i2l (v := (r : Int32).toInt64) hx hb dL_rateFor_8 rfl ?_
    refine ck_last hx hb hK hW hS hN52 hF52 0 (by decide) (by decide) (by decide) dL_rateFor_9 (fun H locs hW hS hz2 => ?_)
    obtain ⟨F2, hFe, hFo, hW⟩ := ck_name hW
    refine lv_goto (tgt := 21) hx hb dL_rateFor_10 (by decide) ?_
    refine lv_iconst (v := 0) hx hb dL_rateFor_21 (by decide) ?_
    exact vx_ret (W.iret (v := 0) hx hb hr (fun t ht hW9 => ⟨⟨_, rfl, by rw [ht]; exact ck_wrp.yes ⟨hR, rfl, rfl, rfl, rfl⟩ (fun _ h => h) (fun _ _ _ => rfl) hFe hFo hW hC⟩, hS.F ht⟩) hS.2.2 dL_rateFor_22)
set_option maxHeartbeats 4000000 in
set_option maxRecDepth 100000 in
theorem ct_L_charge (l : Launch) (G : ck_G) (H : Heap) (ad : Nat → Nat) (N : Nat → Prop) (F : Nat → va_E) (hW : ck_W G ad N F H) (V : Nat → Nat → Int32) (L : Nat → Nat → Int64) (nc nr : Nat) (hC : ck_C G ad V L nc nr N F) (hlt : l.stackTraces = false) (hN52 : N 52) (g : Nat → Int64) (hF52 : F 52 = .inl (G.2.1 1, 1, .inr (.inl g))) (a0 : Int32) : vx_Met l yL_charge wsL_charge ({ frames := 7, cells := 1, slots := 6, locals := 113 }) (ck_P G H [.ref (ad 0), .int a0, .ref (ad 52)]) (ck_Qi G (ck_wrp G ad N F (ck_ro (fun k r => ck_Rcall2 nc (ck_now V nr) a0 k r) V L nc nr))) (fun _ _ _ => False) 1 6 (ck_A G) := by
  refine vx_ofWH (cc := cL_charge) (maxL := 4) (ret := (some .int)) (hh := [(0, 9, 12, 30), (0, 9, 15, 43)]) (by decide) rfl ?_
  intro p e s m args below meth c s₁ B hml hv
  obtain ⟨rfl, hH, hKK⟩ := hv
  subst hH
  have hx := B.exec
  have hb := B.bytes
  have hr := B.returns
  have hts := atoms_spec (ws := wsL_charge) B.pre
  have hown : s.vm.findClass RL = some m.cls := findClass_of_methodNamed B.named
  have hlocks := B.notSynchronized
  have hKK0 := hKK
  have hK := hKK.1.1
  have hS : va_S (ck_A G) s.heap s.heap [] := va_S.rf
  have htab : c.exceptionTable.toList = tableOf [(0, 9, 12, 30), (0, 9, 15, 43)] := vx_table (x := yL_charge) B (hts _ List.mem_cons_self)
  have hl := lv_entry ([.ref (ad 0), .int a0, .ref (ad 52)]) (n := 4) (Nat.le_of_ble_eq_true rfl)
  rw [lg_entry_eq]
  generalize (lg_sl ([.ref (ad 0), .int a0, .ref (ad 52)]) ++ List.replicate (4 - (lg_sl ([.ref (ad 0), .int a0, .ref (ad 52)])).length) Slot.unset).toArray = ls at hl ⊢
  have hl : lv_has ls 4 [(0, .ref (ad 0)), (1, .int a0), (2, .ref (ad 52))] := hl
  refine lv_aload_n hx hb dL_charge_0 rfl (lv_at hl 2 rfl) ?_
  refine lv_iconst (v := 0) hx hb dL_charge_1 (by decide) ?_
  refine lv_aload_n hx hb dL_charge_2 rfl (lv_at hl 0 rfl) ?_
  refine lv_iload_n hx hb dL_charge_3 rfl (lv_at hl 1 rfl) ?_
  refine ck_cXi (As := [.int a0]) (rest := [.int 0, .ref (ad 52)]) ⟨hx, hb, hml, hown, hts⟩ hKK (ct_X4_charge l G s.heap ad N F hW V L nc nr hC hlt a0) (cwV 1 hts gL_charge_X4_charge rfl rfl rfl (by decide +kernel) ⟨Nat.le_of_ble_eq_true rfl, Nat.le_of_ble_eq_true rfl⟩) (ck_recv hK hW (hC.n 0 (by decide)) hC.f0 rfl) rfl hl rfl (Nat.le_of_ble_eq_true rfl) dL_charge_4 ⟨Nat.le_of_ble_eq_true rfl, Nat.le_of_ble_eq_true rfl⟩ hS (fun E ce q9 H locs hP hW hS hce hcv hcl => ?_) (fun r H locs hP hz hS => ?_)
  · obtain ⟨k, r, hR, hE⟩ := hP
    rcases hE with ⟨rfl, rfl⟩ | ⟨rfl, rfl⟩
    · skip
      refine vx_catch (name := ck_IOB) hown [] ⟨0, 9, 12, 30⟩ [⟨0, 9, 15, 43⟩] (by rw [htab]; rfl) (fun z hz => nomatch hz) (by decide) (by decide) (hts _ (List.mem_of_getElem? (i := 1) rfl)) ((hKK0.1.2.2.2.1.1 ck_IOB (List.mem_of_getElem? (i := 2) rfl)).use rfl) hce hcv hcl ?_
      refine ck_pc (q := 12) rfl ?_
      refine lv_astore_n (lv' := [(3, .ref q9), (0, .ref (ad 0)), (1, .int a0), (2, .ref (ad 52))]) hx hb dL_charge_12 rfl hl (by decide) rfl (fun ls hl => ?_)
      refine lv_iconst (v := 1) hx hb dL_charge_13 (by decide) ?_
      exact vx_ret (W.iret (v := 1) hx hb hr (fun t ht hW9 => ⟨⟨_, rfl, by rw [ht]; exact ck_wrp.no (by decide) ⟨hR, rfl, rfl, rfl, rfl⟩ hF52 hW hC⟩, hS.F ht⟩) hS.2.2 dL_charge_14)
    · skip
      refine vx_catch (name := ck_NSE) hown [⟨0, 9, 12, 30⟩] ⟨0, 9, 15, 43⟩ [] (by rw [htab]; rfl) (fun z hz => by cases List.mem_singleton.mp hz; exact Or.inr ⟨by decide, ck_IOB, (hts _ (List.mem_of_getElem? (i := 1) rfl)), hKK0.1.2.2.2.2.1 (ck_NSE, ck_IOB) (List.mem_of_getElem? (i := 2) rfl)⟩) (by decide) (by decide) (hts _ (List.mem_of_getElem? (i := 2) rfl)) ((hKK0.1.2.2.2.1.1 ck_NSE (List.mem_of_getElem? (i := 3) rfl)).use rfl) hce hcv hcl ?_
      refine ck_pc (q := 15) rfl ?_
      refine lv_astore_n (lv' := [(3, .ref q9), (0, .ref (ad 0)), (1, .int a0), (2, .ref (ad 52))]) hx hb dL_charge_15 rfl hl (by decide) rfl (fun ls hl => ?_)
      refine lv_iconst (v := 2) hx hb dL_charge_16 (by decide) ?_
      exact vx_ret (W.iret (v := 2) hx hb hr (fun t ht hW9 => ⟨⟨_, rfl, by rw [ht]; exact ck_wrp.no (by decide) ⟨hR, rfl, rfl, rfl, rfl⟩ hF52 hW hC⟩, hS.F ht⟩) hS.2.2 dL_charge_17)
  · obtain ⟨hR, hW⟩ := hP
    refine lv_i2l (v := (r : Int32).toInt64) hx hb dL_charge_7 rfl ?_
    refine ck_last hx hb hK hW hS hN52 hF52 0 (by decide) (by decide) (by decide) dL_charge_8 (fun H locs hW hS hz2 => ?_)
    obtain ⟨F2, hFe, hFo, hW⟩ := ck_name hW
    refine lv_goto (tgt := 18) hx hb dL_charge_9 (by decide) ?_
    refine lv_iconst (v := 0) hx hb dL_charge_18 (by decide) ?_
    exact vx_ret (W.iret (v := 0) hx hb hr (fun t ht hW9 => ⟨⟨_, rfl, by rw [ht]; exact ck_wrp.yes ⟨hR, rfl, rfl, rfl, rfl⟩ (fun _ h => h) (fun _ _ _ => rfl) hFe hFo hW hC⟩, hS.F ht⟩) hS.2.2 dL_charge_19)
set_option maxHeartbeats 4000000 in
set_option maxRecDepth 100000 in
theorem ct_L_booked (l : Launch) (G : ck_G) (H : Heap) (ad : Nat → Nat) (N : Nat → Prop) (F : Nat → va_E) (hW : ck_W G ad N F H) (V : Nat → Nat → Int32) (L : Nat → Nat → Int64) (nc nr : Nat) (hC : ck_C G ad V L nc nr N F) (hlt : l.stackTraces = false) (hN52 : N 52) (g : Nat → Int64) (hF52 : F 52 = .inl (G.2.1 1, 1, .inr (.inl g))) (a0 : Int32) : vx_Met l yL_booked wsL_booked ({ frames := 7, cells := 1, slots := 6, locals := 112 }) (ck_P G H [.ref (ad 0), .int a0, .ref (ad 52)]) (ck_Qi G (ck_wrp G ad N F (ck_ro (fun k r => ck_Rcall2 nc (V 5) a0 k r) V L nc nr))) (fun _ _ _ => False) 1 6 (ck_A G) := by
  refine vx_ofWH (cc := cL_booked) (maxL := 4) (ret := (some .int)) (hh := [(0, 9, 12, 30), (0, 9, 15, 43)]) (by decide) rfl ?_
  intro p e s m args below meth c s₁ B hml hv
  obtain ⟨rfl, hH, hKK⟩ := hv
  subst hH
  have hx := B.exec
  have hb := B.bytes
  have hr := B.returns
  have hts := atoms_spec (ws := wsL_booked) B.pre
  have hown : s.vm.findClass RL = some m.cls := findClass_of_methodNamed B.named
  have hlocks := B.notSynchronized
  have hKK0 := hKK
  have hK := hKK.1.1
  have hS : va_S (ck_A G) s.heap s.heap [] := va_S.rf
  have htab : c.exceptionTable.toList = tableOf [(0, 9, 12, 30), (0, 9, 15, 43)] := vx_table (x := yL_booked) B (hts _ List.mem_cons_self)
  have hl := lv_entry ([.ref (ad 0), .int a0, .ref (ad 52)]) (n := 4) (Nat.le_of_ble_eq_true rfl)
  rw [lg_entry_eq]
  generalize (lg_sl ([.ref (ad 0), .int a0, .ref (ad 52)]) ++ List.replicate (4 - (lg_sl ([.ref (ad 0), .int a0, .ref (ad 52)])).length) Slot.unset).toArray = ls at hl ⊢
  have hl : lv_has ls 4 [(0, .ref (ad 0)), (1, .int a0), (2, .ref (ad 52))] := hl
  refine lv_aload_n hx hb dL_booked_0 rfl (lv_at hl 2 rfl) ?_
  refine lv_iconst (v := 0) hx hb dL_booked_1 (by decide) ?_
  refine lv_aload_n hx hb dL_booked_2 rfl (lv_at hl 0 rfl) ?_
  refine lv_iload_n hx hb dL_booked_3 rfl (lv_at hl 1 rfl) ?_
  refine ck_cXi (As := [.int a0]) (rest := [.int 0, .ref (ad 52)]) ⟨hx, hb, hml, hown, hts⟩ hKK (ct_X4_booked l G s.heap ad N F hW V L nc nr hC hlt a0) (cwV 1 hts gL_booked_X4_booked rfl rfl rfl (by decide +kernel) ⟨Nat.le_of_ble_eq_true rfl, Nat.le_of_ble_eq_true rfl⟩) (ck_recv hK hW (hC.n 0 (by decide)) hC.f0 rfl) rfl hl rfl (Nat.le_of_ble_eq_true rfl) dL_booked_4 ⟨Nat.le_of_ble_eq_true rfl, Nat.le_of_ble_eq_true rfl⟩ hS (fun E ce q9 H locs hP hW hS hce hcv hcl => ?_) (fun r H locs hP hz hS => ?_)
  · obtain ⟨k, r, hR, hE⟩ := hP
    rcases hE with ⟨rfl, rfl⟩ | ⟨rfl, rfl⟩
    · skip
      refine vx_catch (name := ck_IOB) hown [] ⟨0, 9, 12, 30⟩ [⟨0, 9, 15, 43⟩] (by rw [htab]; rfl) (fun z hz => nomatch hz) (by decide) (by decide) (hts _ (List.mem_of_getElem? (i := 1) rfl)) ((hKK0.1.2.2.2.1.1 ck_IOB (List.mem_of_getElem? (i := 2) rfl)).use rfl) hce hcv hcl ?_
      refine ck_pc (q := 12) rfl ?_
      refine lv_astore_n (lv' := [(3, .ref q9), (0, .ref (ad 0)), (1, .int a0), (2, .ref (ad 52))]) hx hb dL_booked_12 rfl hl (by decide) rfl (fun ls hl => ?_)
      refine lv_iconst (v := 1) hx hb dL_booked_13 (by decide) ?_
      exact vx_ret (W.iret (v := 1) hx hb hr (fun t ht hW9 => ⟨⟨_, rfl, by rw [ht]; exact ck_wrp.no (by decide) ⟨hR, rfl, rfl, rfl, rfl⟩ hF52 hW hC⟩, hS.F ht⟩) hS.2.2 dL_booked_14)
    · skip
      refine vx_catch (name := ck_NSE) hown [⟨0, 9, 12, 30⟩] ⟨0, 9, 15, 43⟩ [] (by rw [htab]; rfl) (fun z hz => by cases List.mem_singleton.mp hz; exact Or.inr ⟨by decide, ck_IOB, (hts _ (List.mem_of_getElem? (i := 1) rfl)), hKK0.1.2.2.2.2.1 (ck_NSE, ck_IOB) (List.mem_of_getElem? (i := 2) rfl)⟩) (by decide) (by decide) (hts _ (List.mem_of_getElem? (i := 2) rfl)) ((hKK0.1.2.2.2.1.1 ck_NSE (List.mem_of_getElem? (i := 3) rfl)).use rfl) hce hcv hcl ?_
      refine ck_pc (q := 15) rfl ?_
      refine lv_astore_n (lv' := [(3, .ref q9), (0, .ref (ad 0)), (1, .int a0), (2, .ref (ad 52))]) hx hb dL_booked_15 rfl hl (by decide) rfl (fun ls hl => ?_)
      refine lv_iconst (v := 2) hx hb dL_booked_16 (by decide) ?_
      exact vx_ret (W.iret (v := 2) hx hb hr (fun t ht hW9 => ⟨⟨_, rfl, by rw [ht]; exact ck_wrp.no (by decide) ⟨hR, rfl, rfl, rfl, rfl⟩ hF52 hW hC⟩, hS.F ht⟩) hS.2.2 dL_booked_17)
  · obtain ⟨hR, hW⟩ := hP
    refine lv_i2l (v := (r : Int32).toInt64) hx hb dL_booked_7 rfl ?_
    refine ck_last hx hb hK hW hS hN52 hF52 0 (by decide) (by decide) (by decide) dL_booked_8 (fun H locs hW hS hz2 => ?_)
    obtain ⟨F2, hFe, hFo, hW⟩ := ck_name hW
    refine lv_goto (tgt := 18) hx hb dL_booked_9 (by decide) ?_
    refine lv_iconst (v := 0) hx hb dL_booked_18 (by decide) ?_
    exact vx_ret (W.iret (v := 0) hx hb hr (fun t ht hW9 => ⟨⟨_, rfl, by rw [ht]; exact ck_wrp.yes ⟨hR, rfl, rfl, rfl, rfl⟩ (fun _ h => h) (fun _ _ _ => rfl) hFe hFo hW hC⟩, hS.F ht⟩) hS.2.2 dL_booked_19)
set_option maxHeartbeats 4000000 in
set_option maxRecDepth 100000 in
theorem ct_L_total (l : Launch) (G : ck_G) (H : Heap) (ad : Nat → Nat) (N : Nat → Prop) (F : Nat → va_E) (hW : ck_W G ad N F H) (V : Nat → Nat → Int32) (L : Nat → Nat → Int64) (nc nr : Nat) (hC : ck_C G ad V L nc nr N F) (hlt : l.stackTraces = false) (hN52 : N 52) (g : Nat → Int64) (hF52 : F 52 = .inl (G.2.1 1, 1, .inr (.inl g))) (a0 : Int32) : vx_Met l yL_total wsL_total ({ frames := 7, cells := 1, slots := 6, locals := 116 }) (ck_P G H [.ref (ad 0), .int a0, .ref (ad 52)]) (ck_Qi G (ck_wrp G ad N F (ck_ro (fun k r => ck_Rsum (fun q => ck_tt V q nc) a0 k r) V L nc nr))) (fun _ _ _ => False) 1 6 (ck_A G) := by
  refine vx_ofWH (cc := cL_total) (maxL := 4) (ret := (some .int)) (hh := [(0, 9, 12, 13)]) (by decide) rfl ?_
  intro p e s m args below meth c s₁ B hml hv
  obtain ⟨rfl, hH, hKK⟩ := hv
  subst hH
  have hx := B.exec
  have hb := B.bytes
  have hr := B.returns
  have hts := atoms_spec (ws := wsL_total) B.pre
  have hown : s.vm.findClass RL = some m.cls := findClass_of_methodNamed B.named
  have hlocks := B.notSynchronized
  have hKK0 := hKK
  have hK := hKK.1.1
  have hS : va_S (ck_A G) s.heap s.heap [] := va_S.rf
  have htab : c.exceptionTable.toList = tableOf [(0, 9, 12, 13)] := vx_table (x := yL_total) B (hts _ List.mem_cons_self)
  have hl := lv_entry ([.ref (ad 0), .int a0, .ref (ad 52)]) (n := 4) (Nat.le_of_ble_eq_true rfl)
  rw [lg_entry_eq]
  generalize (lg_sl ([.ref (ad 0), .int a0, .ref (ad 52)]) ++ List.replicate (4 - (lg_sl ([.ref (ad 0), .int a0, .ref (ad 52)])).length) Slot.unset).toArray = ls at hl ⊢
  have hl : lv_has ls 4 [(0, .ref (ad 0)), (1, .int a0), (2, .ref (ad 52))] := hl
  refine lv_aload_n hx hb dL_total_0 rfl (lv_at hl 2 rfl) ?_
  refine lv_iconst (v := 0) hx hb dL_total_1 (by decide) ?_
  refine lv_aload_n hx hb dL_total_2 rfl (lv_at hl 0 rfl) ?_
  refine lv_iload_n hx hb dL_total_3 rfl (lv_at hl 1 rfl) ?_
  refine ck_cXi (As := [.int a0]) (rest := [.int 0, .ref (ad 52)]) ⟨hx, hb, hml, hown, hts⟩ hKK (ct_X4_total l G s.heap ad N F hW V L nc nr hC hlt a0) (cwV 1 hts gL_total_X4_total rfl rfl rfl (by decide +kernel) ⟨Nat.le_of_ble_eq_true rfl, Nat.le_of_ble_eq_true rfl⟩) (ck_recv hK hW (hC.n 0 (by decide)) hC.f0 rfl) rfl hl rfl (Nat.le_of_ble_eq_true rfl) dL_total_4 ⟨Nat.le_of_ble_eq_true rfl, Nat.le_of_ble_eq_true rfl⟩ hS (fun E ce q9 H locs hP hW hS hce hcv hcl => ?_) (fun r H locs hP hz hS => ?_)
  · obtain ⟨k, r, hR, hE⟩ := hP
    obtain ⟨rfl, rfl⟩ := hE
    refine vx_catch (name := ck_IAE) hown [] ⟨0, 9, 12, 13⟩ [] (by rw [htab]; rfl) (fun z hz => nomatch hz) (by decide) (by decide) (hts _ (List.mem_of_getElem? (i := 1) rfl)) ((hKK0.1.2.2.2.1.1 ck_IAE (List.mem_of_getElem? (i := 0) rfl)).use rfl) hce hcv hcl ?_
    refine ck_pc (q := 12) rfl ?_
    refine lv_astore_n (lv' := [(3, .ref q9), (0, .ref (ad 0)), (1, .int a0), (2, .ref (ad 52))]) hx hb dL_total_12 rfl hl (by decide) rfl (fun ls hl => ?_)
    refine lv_iconst (v := 1) hx hb dL_total_13 (by decide) ?_
    exact vx_ret (W.iret (v := 1) hx hb hr (fun t ht hW9 => ⟨⟨_, rfl, by rw [ht]; exact ck_wrp.no (by decide) ⟨hR, rfl, rfl, rfl, rfl⟩ hF52 hW hC⟩, hS.F ht⟩) hS.2.2 dL_total_14)
  · obtain ⟨hR, hW⟩ := hP
    refine lv_i2l (v := (r : Int32).toInt64) hx hb dL_total_7 rfl ?_
    refine ck_last hx hb hK hW hS hN52 hF52 0 (by decide) (by decide) (by decide) dL_total_8 (fun H locs hW hS hz2 => ?_)
    obtain ⟨F2, hFe, hFo, hW⟩ := ck_name hW
    refine lv_goto (tgt := 15) hx hb dL_total_9 (by decide) ?_
    refine lv_iconst (v := 0) hx hb dL_total_15 (by decide) ?_
    exact vx_ret (W.iret (v := 0) hx hb hr (fun t ht hW9 => ⟨⟨_, rfl, by rw [ht]; exact ck_wrp.yes ⟨hR, rfl, rfl, rfl, rfl⟩ (fun _ h => h) (fun _ _ _ => rfl) hFe hFo hW hC⟩, hS.F ht⟩) hS.2.2 dL_total_16)
set_option maxHeartbeats 4000000 in
set_option maxRecDepth 100000 in
theorem ct_L_offer (l : Launch) (G : ck_G) (H : Heap) (ad : Nat → Nat) (N : Nat → Prop) (F : Nat → va_E) (hW : ck_W G ad N F H) (V : Nat → Nat → Int32) (L : Nat → Nat → Int64) (nc nr : Nat) (hC : ck_C G ad V L nc nr N F) (hlt : l.stackTraces = false) (hN52 : N 52) (g : Nat → Int64) (hF52 : F 52 = .inl (G.2.1 1, 1, .inr (.inl g))) (a0 a1 a2 : Int32) : vx_Met l yL_offer wsL_offer ({ frames := 7, cells := 1, slots := 6, locals := 114 }) (ck_P G H [.ref (ad 0), .int a0, .int a1, .int a2, .ref (ad 52)]) (ck_Qi G (ck_wrp G ad N F (ck_wr (fun k r V1 => ck_RoffC V a0 a1 a2 k r V1) L nc nr))) (fun _ _ _ => False) 1 6 (ck_A G) := by
  refine vx_ofWH (cc := cL_offer) (maxL := 6) (ret := (some .int)) (hh := [(0, 12, 15, 13), (0, 12, 19, 19)]) (by decide) rfl ?_
  intro p e s m args below meth c s₁ B hml hv
  obtain ⟨rfl, hH, hKK⟩ := hv
  subst hH
  have hx := B.exec
  have hb := B.bytes
  have hr := B.returns
  have hts := atoms_spec (ws := wsL_offer) B.pre
  have hown : s.vm.findClass RL = some m.cls := findClass_of_methodNamed B.named
  have hlocks := B.notSynchronized
  have hKK0 := hKK
  have hK := hKK.1.1
  have hS : va_S (ck_A G) s.heap s.heap [] := va_S.rf
  have htab : c.exceptionTable.toList = tableOf [(0, 12, 15, 13), (0, 12, 19, 19)] := vx_table (x := yL_offer) B (hts _ List.mem_cons_self)
  have hl := lv_entry ([.ref (ad 0), .int a0, .int a1, .int a2, .ref (ad 52)]) (n := 6) (Nat.le_of_ble_eq_true rfl)
  rw [lg_entry_eq]
  generalize (lg_sl ([.ref (ad 0), .int a0, .int a1, .int a2, .ref (ad 52)]) ++ List.replicate (6 - (lg_sl ([.ref (ad 0), .int a0, .int a1, .int a2, .ref (ad 52)])).length) Slot.unset).toArray = ls at hl ⊢
  have hl : lv_has ls 6 [(0, .ref (ad 0)), (1, .int a0), (2, .int a1), (3, .int a2), (4, .ref (ad 52))] := hl
  refine lv_aload hx hb dL_offer_0 (lv_at hl 4 rfl) ?_
  refine lv_iconst (v := 0) hx hb dL_offer_2 (by decide) ?_
  refine lv_aload_n hx hb dL_offer_3 rfl (lv_at hl 0 rfl) ?_
  refine lv_iload_n hx hb dL_offer_4 rfl (lv_at hl 1 rfl) ?_
  refine lv_iload_n hx hb dL_offer_5 rfl (lv_at hl 2 rfl) ?_
  refine lv_iload_n hx hb dL_offer_6 rfl (lv_at hl 3 rfl) ?_
  refine ck_cXi (As := [.int a0, .int a1, .int a2]) (rest := [.int 0, .ref (ad 52)]) ⟨hx, hb, hml, hown, hts⟩ hKK (ct_X4_offer l G s.heap ad N F hW V L nc nr hC hlt a0 a1 a2) (cwV 3 hts gL_offer_X4_offer rfl rfl rfl (by decide +kernel) ⟨Nat.le_of_ble_eq_true rfl, Nat.le_of_ble_eq_true rfl⟩) (ck_recv hK hW (hC.n 0 (by decide)) hC.f0 rfl) rfl hl rfl (Nat.le_of_ble_eq_true rfl) dL_offer_7 ⟨Nat.le_of_ble_eq_true rfl, Nat.le_of_ble_eq_true rfl⟩ hS (fun E ce q9 H locs hP hW hS hce hcv hcl => ?_) (fun r H locs hP hz hS => ?_)
  · obtain ⟨k, r, hR, hE⟩ := hP
    rcases hE with ⟨rfl, rfl⟩ | ⟨rfl, rfl⟩
    · skip
      refine vx_catch (name := ck_IAE) hown [] ⟨0, 12, 15, 13⟩ [⟨0, 12, 19, 19⟩] (by rw [htab]; rfl) (fun z hz => nomatch hz) (by decide) (by decide) (hts _ (List.mem_of_getElem? (i := 1) rfl)) ((hKK0.1.2.2.2.1.1 ck_IAE (List.mem_of_getElem? (i := 0) rfl)).use rfl) hce hcv hcl ?_
      refine ck_pc (q := 15) rfl ?_
      refine lv_astore (lv' := [(5, .ref q9), (0, .ref (ad 0)), (1, .int a0), (2, .int a1), (3, .int a2), (4, .ref (ad 52))]) hx hb dL_offer_15 hl (by decide) rfl (fun ls hl => ?_)
      refine lv_iconst (v := 1) hx hb dL_offer_17 (by decide) ?_
      exact vx_ret (W.iret (v := 1) hx hb hr (fun t ht hW9 => ⟨⟨_, rfl, by rw [ht]; exact ck_wrp.no (by decide) ⟨hR, rfl, rfl, rfl⟩ hF52 hW hC⟩, hS.F ht⟩) hS.2.2 dL_offer_18)
    · skip
      refine vx_catch (name := ck_ISE) hown [⟨0, 12, 15, 13⟩] ⟨0, 12, 19, 19⟩ [] (by rw [htab]; rfl) (fun z hz => by cases List.mem_singleton.mp hz; exact Or.inr ⟨by decide, ck_IAE, (hts _ (List.mem_of_getElem? (i := 1) rfl)), hKK0.1.2.2.2.2.1 (ck_ISE, ck_IAE) (List.mem_of_getElem? (i := 0) rfl)⟩) (by decide) (by decide) (hts _ (List.mem_of_getElem? (i := 2) rfl)) ((hKK0.1.2.2.2.1.1 ck_ISE (List.mem_of_getElem? (i := 1) rfl)).use rfl) hce hcv hcl ?_
      refine ck_pc (q := 19) rfl ?_
      refine lv_astore (lv' := [(5, .ref q9), (0, .ref (ad 0)), (1, .int a0), (2, .int a1), (3, .int a2), (4, .ref (ad 52))]) hx hb dL_offer_19 hl (by decide) rfl (fun ls hl => ?_)
      refine lv_iconst (v := 2) hx hb dL_offer_21 (by decide) ?_
      exact vx_ret (W.iret (v := 2) hx hb hr (fun t ht hW9 => ⟨⟨_, rfl, by rw [ht]; exact ck_wrp.no (by decide) ⟨hR, rfl, rfl, rfl⟩ hF52 hW hC⟩, hS.F ht⟩) hS.2.2 dL_offer_22)
  · obtain ⟨V1, F1, hR, hW, hC, hs⟩ := hP
    refine lv_i2l (v := (r : Int32).toInt64) hx hb dL_offer_10 rfl ?_
    refine ck_last hx hb hK hW hS hN52 ((hs 52 (by decide) (by decide)).trans hF52) 0 (by decide) (by decide) (by decide) dL_offer_11 (fun H locs hW hS hz2 => ?_)
    obtain ⟨F2, hFe, hFo, hW⟩ := ck_name hW
    refine lv_goto (tgt := 23) hx hb dL_offer_12 (by decide) ?_
    refine lv_iconst (v := 0) hx hb dL_offer_23 (by decide) ?_
    exact vx_ret (W.iret (v := 0) hx hb hr (fun t ht hW9 => ⟨⟨_, rfl, by rw [ht]; exact ck_wrp.yes ⟨hR, rfl, rfl, rfl⟩ (fun _ h => h) hs hFe hFo hW hC⟩, hS.F ht⟩) hS.2.2 dL_offer_24)
set_option maxHeartbeats 4000000 in
set_option maxRecDepth 100000 in
theorem ct_L_offerFor (l : Launch) (G : ck_G) (H : Heap) (ad : Nat → Nat) (N : Nat → Prop) (F : Nat → va_E) (hW : ck_W G ad N F H) (V : Nat → Nat → Int32) (L : Nat → Nat → Int64) (nc nr : Nat) (hC : ck_C G ad V L nc nr N F) (hlt : l.stackTraces = false) (hN52 : N 52) (g : Nat → Int64) (hF52 : F 52 = .inl (G.2.1 1, 1, .inr (.inl g))) (a0 a1 : Int32) : vx_Met l yL_offerFor wsL_offerFor ({ frames := 7, cells := 1, slots := 6, locals := 114 }) (ck_P G H [.ref (ad 0), .int a0, .int a1, .ref (ad 52)]) (ck_Qi G (ck_wrp G ad N F (ck_ro (fun k r => ck_RoffF (fun i => ck_pr V a1 i) a0 a1 k r) V L nc nr))) (fun _ _ _ => False) 1 6 (ck_A G) := by
  refine vx_ofWH (cc := cL_offerFor) (maxL := 5) (ret := (some .int)) (hh := [(0, 10, 13, 13), (0, 10, 17, 43)]) (by decide) rfl ?_
  intro p e s m args below meth c s₁ B hml hv
  obtain ⟨rfl, hH, hKK⟩ := hv
  subst hH
  have hx := B.exec
  have hb := B.bytes
  have hr := B.returns
  have hts := atoms_spec (ws := wsL_offerFor) B.pre
  have hown : s.vm.findClass RL = some m.cls := findClass_of_methodNamed B.named
  have hlocks := B.notSynchronized
  have hKK0 := hKK
  have hK := hKK.1.1
  have hS : va_S (ck_A G) s.heap s.heap [] := va_S.rf
  have htab : c.exceptionTable.toList = tableOf [(0, 10, 13, 13), (0, 10, 17, 43)] := vx_table (x := yL_offerFor) B (hts _ List.mem_cons_self)
  have hl := lv_entry ([.ref (ad 0), .int a0, .int a1, .ref (ad 52)]) (n := 5) (Nat.le_of_ble_eq_true rfl)
  rw [lg_entry_eq]
  generalize (lg_sl ([.ref (ad 0), .int a0, .int a1, .ref (ad 52)]) ++ List.replicate (5 - (lg_sl ([.ref (ad 0), .int a0, .int a1, .ref (ad 52)])).length) Slot.unset).toArray = ls at hl ⊢
  have hl : lv_has ls 5 [(0, .ref (ad 0)), (1, .int a0), (2, .int a1), (3, .ref (ad 52))] := hl
  refine lv_aload_n hx hb dL_offerFor_0 rfl (lv_at hl 3 rfl) ?_
  refine lv_iconst (v := 0) hx hb dL_offerFor_1 (by decide) ?_
  refine lv_aload_n hx hb dL_offerFor_2 rfl (lv_at hl 0 rfl) ?_
  refine lv_iload_n hx hb dL_offerFor_3 rfl (lv_at hl 1 rfl) ?_
  refine lv_iload_n hx hb dL_offerFor_4 rfl (lv_at hl 2 rfl) ?_
  refine ck_cXi (As := [.int a0, .int a1]) (rest := [.int 0, .ref (ad 52)]) ⟨hx, hb, hml, hown, hts⟩ hKK (ct_X4_offerFor l G s.heap ad N F hW V L nc nr hC hlt a0 a1) (cwV 2 hts gL_offerFor_X4_offerFor rfl rfl rfl (by decide +kernel) ⟨Nat.le_of_ble_eq_true rfl, Nat.le_of_ble_eq_true rfl⟩) (ck_recv hK hW (hC.n 0 (by decide)) hC.f0 rfl) rfl hl rfl (Nat.le_of_ble_eq_true rfl) dL_offerFor_5 ⟨Nat.le_of_ble_eq_true rfl, Nat.le_of_ble_eq_true rfl⟩ hS (fun E ce q9 H locs hP hW hS hce hcv hcl => ?_) (fun r H locs hP hz hS => ?_)
  · obtain ⟨k, r, hR, hE⟩ := hP
    rcases hE with ⟨rfl, rfl⟩ | ⟨rfl, rfl⟩
    · skip
      refine vx_catch (name := ck_IAE) hown [] ⟨0, 10, 13, 13⟩ [⟨0, 10, 17, 43⟩] (by rw [htab]; rfl) (fun z hz => nomatch hz) (by decide) (by decide) (hts _ (List.mem_of_getElem? (i := 1) rfl)) ((hKK0.1.2.2.2.1.1 ck_IAE (List.mem_of_getElem? (i := 0) rfl)).use rfl) hce hcv hcl ?_
      refine ck_pc (q := 13) rfl ?_
      refine lv_astore (lv' := [(4, .ref q9), (0, .ref (ad 0)), (1, .int a0), (2, .int a1), (3, .ref (ad 52))]) hx hb dL_offerFor_13 hl (by decide) rfl (fun ls hl => ?_)
      refine lv_iconst (v := 1) hx hb dL_offerFor_15 (by decide) ?_
      exact vx_ret (W.iret (v := 1) hx hb hr (fun t ht hW9 => ⟨⟨_, rfl, by rw [ht]; exact ck_wrp.no (by decide) ⟨hR, rfl, rfl, rfl, rfl⟩ hF52 hW hC⟩, hS.F ht⟩) hS.2.2 dL_offerFor_16)
    · skip
      refine vx_catch (name := ck_NSE) hown [⟨0, 10, 13, 13⟩] ⟨0, 10, 17, 43⟩ [] (by rw [htab]; rfl) (fun z hz => by cases List.mem_singleton.mp hz; exact Or.inr ⟨by decide, ck_IAE, (hts _ (List.mem_of_getElem? (i := 1) rfl)), hKK0.1.2.2.2.2.1 (ck_NSE, ck_IAE) (List.mem_of_getElem? (i := 1) rfl)⟩) (by decide) (by decide) (hts _ (List.mem_of_getElem? (i := 2) rfl)) ((hKK0.1.2.2.2.1.1 ck_NSE (List.mem_of_getElem? (i := 3) rfl)).use rfl) hce hcv hcl ?_
      refine ck_pc (q := 17) rfl ?_
      refine lv_astore (lv' := [(4, .ref q9), (0, .ref (ad 0)), (1, .int a0), (2, .int a1), (3, .ref (ad 52))]) hx hb dL_offerFor_17 hl (by decide) rfl (fun ls hl => ?_)
      refine lv_iconst (v := 2) hx hb dL_offerFor_19 (by decide) ?_
      exact vx_ret (W.iret (v := 2) hx hb hr (fun t ht hW9 => ⟨⟨_, rfl, by rw [ht]; exact ck_wrp.no (by decide) ⟨hR, rfl, rfl, rfl, rfl⟩ hF52 hW hC⟩, hS.F ht⟩) hS.2.2 dL_offerFor_20)
  · obtain ⟨hR, hW⟩ := hP
    refine lv_i2l (v := (r : Int32).toInt64) hx hb dL_offerFor_8 rfl ?_
    refine ck_last hx hb hK hW hS hN52 hF52 0 (by decide) (by decide) (by decide) dL_offerFor_9 (fun H locs hW hS hz2 => ?_)
    obtain ⟨F2, hFe, hFo, hW⟩ := ck_name hW
    refine lv_goto (tgt := 21) hx hb dL_offerFor_10 (by decide) ?_
    refine lv_iconst (v := 0) hx hb dL_offerFor_21 (by decide) ?_
    exact vx_ret (W.iret (v := 0) hx hb hr (fun t ht hW9 => ⟨⟨_, rfl, by rw [ht]; exact ck_wrp.yes ⟨hR, rfl, rfl, rfl, rfl⟩ (fun _ h => h) (fun _ _ _ => rfl) hFe hFo hW hC⟩, hS.F ht⟩) hS.2.2 dL_offerFor_22)
set_option maxHeartbeats 4000000 in
set_option maxRecDepth 100000 in
theorem ct_L_route (l : Launch) (G : ck_G) (H : Heap) (ad : Nat → Nat) (N : Nat → Prop) (F : Nat → va_E) (hW : ck_W G ad N F H) (V : Nat → Nat → Int32) (L : Nat → Nat → Int64) (nc nr : Nat) (hC : ck_C G ad V L nc nr N F) (hlt : l.stackTraces = false) (hN52 : N 52) (g : Nat → Int64) (hF52 : F 52 = .inl (G.2.1 1, 1, .inr (.inl g))) (a0 a1 a2 a3 : Int32) : vx_Met l yL_route wsL_route ({ frames := 7, cells := 1, slots := 6, locals := 147 }) (ck_P G H [.ref (ad 0), .int a0, .int a1, .int a2, .int a3, .ref (ad 52)]) (ck_Qi G (ck_wrp G ad N F (ck_ro (fun k r => ck_Rroute V nr (fun z => ck_rk (ck_pr V a0) z a3 0 4) a0 a1 a2 a3 k r) V L nc nr))) (fun _ _ _ => False) 1 6 (ck_A G) := by
  refine vx_ofWH (cc := cL_route) (maxL := 7) (ret := (some .int)) (hh := [(0, 14, 17, 13), (0, 14, 21, 43)]) (by decide) rfl ?_
  intro p e s m args below meth c s₁ B hml hv
  obtain ⟨rfl, hH, hKK⟩ := hv
  subst hH
  have hx := B.exec
  have hb := B.bytes
  have hr := B.returns
  have hts := atoms_spec (ws := wsL_route) B.pre
  have hown : s.vm.findClass RL = some m.cls := findClass_of_methodNamed B.named
  have hlocks := B.notSynchronized
  have hKK0 := hKK
  have hK := hKK.1.1
  have hS : va_S (ck_A G) s.heap s.heap [] := va_S.rf
  have htab : c.exceptionTable.toList = tableOf [(0, 14, 17, 13), (0, 14, 21, 43)] := vx_table (x := yL_route) B (hts _ List.mem_cons_self)
  have hl := lv_entry ([.ref (ad 0), .int a0, .int a1, .int a2, .int a3, .ref (ad 52)]) (n := 7) (Nat.le_of_ble_eq_true rfl)
  rw [lg_entry_eq]
  generalize (lg_sl ([.ref (ad 0), .int a0, .int a1, .int a2, .int a3, .ref (ad 52)]) ++ List.replicate (7 - (lg_sl ([.ref (ad 0), .int a0, .int a1, .int a2, .int a3, .ref (ad 52)])).length) Slot.unset).toArray = ls at hl ⊢
  have hl : lv_has ls 7 [(0, .ref (ad 0)), (1, .int a0), (2, .int a1), (3, .int a2), (4, .int a3), (5, .ref (ad 52))] := hl
  refine lv_aload hx hb dL_route_0 (lv_at hl 5 rfl) ?_
  refine lv_iconst (v := 0) hx hb dL_route_2 (by decide) ?_
  refine lv_aload_n hx hb dL_route_3 rfl (lv_at hl 0 rfl) ?_
  refine lv_iload_n hx hb dL_route_4 rfl (lv_at hl 1 rfl) ?_
  refine lv_iload_n hx hb dL_route_5 rfl (lv_at hl 2 rfl) ?_
  refine lv_iload_n hx hb dL_route_6 rfl (lv_at hl 3 rfl) ?_
  refine lv_iload hx hb dL_route_7 (lv_at hl 4 rfl) ?_
  refine ck_cXi (As := [.int a0, .int a1, .int a2, .int a3]) (rest := [.int 0, .ref (ad 52)]) ⟨hx, hb, hml, hown, hts⟩ hKK (ct_X4_route l G s.heap ad N F hW V L nc nr hC hlt a0 a1 a2 a3) (cwV 4 hts gL_route_X4_route rfl rfl rfl (by decide +kernel) ⟨Nat.le_of_ble_eq_true rfl, Nat.le_of_ble_eq_true rfl⟩) (ck_recv hK hW (hC.n 0 (by decide)) hC.f0 rfl) rfl hl rfl (Nat.le_of_ble_eq_true rfl) dL_route_9 ⟨Nat.le_of_ble_eq_true rfl, Nat.le_of_ble_eq_true rfl⟩ hS (fun E ce q9 H locs hP hW hS hce hcv hcl => ?_) (fun r H locs hP hz hS => ?_)
  · obtain ⟨k, r, hR, hE⟩ := hP
    rcases hE with ⟨rfl, rfl⟩ | ⟨rfl, rfl⟩
    · skip
      refine vx_catch (name := ck_IAE) hown [] ⟨0, 14, 17, 13⟩ [⟨0, 14, 21, 43⟩] (by rw [htab]; rfl) (fun z hz => nomatch hz) (by decide) (by decide) (hts _ (List.mem_of_getElem? (i := 1) rfl)) ((hKK0.1.2.2.2.1.1 ck_IAE (List.mem_of_getElem? (i := 0) rfl)).use rfl) hce hcv hcl ?_
      refine ck_pc (q := 17) rfl ?_
      refine lv_astore (lv' := [(6, .ref q9), (0, .ref (ad 0)), (1, .int a0), (2, .int a1), (3, .int a2), (4, .int a3), (5, .ref (ad 52))]) hx hb dL_route_17 hl (by decide) rfl (fun ls hl => ?_)
      refine lv_iconst (v := 1) hx hb dL_route_19 (by decide) ?_
      exact vx_ret (W.iret (v := 1) hx hb hr (fun t ht hW9 => ⟨⟨_, rfl, by rw [ht]; exact ck_wrp.no (by decide) ⟨hR, rfl, rfl, rfl, rfl⟩ hF52 hW hC⟩, hS.F ht⟩) hS.2.2 dL_route_20)
    · skip
      refine vx_catch (name := ck_NSE) hown [⟨0, 14, 17, 13⟩] ⟨0, 14, 21, 43⟩ [] (by rw [htab]; rfl) (fun z hz => by cases List.mem_singleton.mp hz; exact Or.inr ⟨by decide, ck_IAE, (hts _ (List.mem_of_getElem? (i := 1) rfl)), hKK0.1.2.2.2.2.1 (ck_NSE, ck_IAE) (List.mem_of_getElem? (i := 1) rfl)⟩) (by decide) (by decide) (hts _ (List.mem_of_getElem? (i := 2) rfl)) ((hKK0.1.2.2.2.1.1 ck_NSE (List.mem_of_getElem? (i := 3) rfl)).use rfl) hce hcv hcl ?_
      refine ck_pc (q := 21) rfl ?_
      refine lv_astore (lv' := [(6, .ref q9), (0, .ref (ad 0)), (1, .int a0), (2, .int a1), (3, .int a2), (4, .int a3), (5, .ref (ad 52))]) hx hb dL_route_21 hl (by decide) rfl (fun ls hl => ?_)
      refine lv_iconst (v := 2) hx hb dL_route_23 (by decide) ?_
      exact vx_ret (W.iret (v := 2) hx hb hr (fun t ht hW9 => ⟨⟨_, rfl, by rw [ht]; exact ck_wrp.no (by decide) ⟨hR, rfl, rfl, rfl, rfl⟩ hF52 hW hC⟩, hS.F ht⟩) hS.2.2 dL_route_24)
  · obtain ⟨hR, hW⟩ := hP
    refine lv_i2l (v := (r : Int32).toInt64) hx hb dL_route_12 rfl ?_
    refine ck_last hx hb hK hW hS hN52 hF52 0 (by decide) (by decide) (by decide) dL_route_13 (fun H locs hW hS hz2 => ?_)
    obtain ⟨F2, hFe, hFo, hW⟩ := ck_name hW
    refine lv_goto (tgt := 25) hx hb dL_route_14 (by decide) ?_
    refine lv_iconst (v := 0) hx hb dL_route_25 (by decide) ?_
    exact vx_ret (W.iret (v := 0) hx hb hr (fun t ht hW9 => ⟨⟨_, rfl, by rw [ht]; exact ck_wrp.yes ⟨hR, rfl, rfl, rfl, rfl⟩ (fun _ h => h) (fun _ _ _ => rfl) hFe hFo hW hC⟩, hS.F ht⟩) hS.2.2 dL_route_26)
set_option maxHeartbeats 4000000 in
set_option maxRecDepth 100000 in
theorem ct_L_claim (l : Launch) (G : ck_G) (H : Heap) (ad : Nat → Nat) (N : Nat → Prop) (F : Nat → va_E) (hW : ck_W G ad N F H) (V : Nat → Nat → Int32) (L : Nat → Nat → Int64) (nc nr : Nat) (hC : ck_C G ad V L nc nr N F) (hlt : l.stackTraces = false) (hN52 : N 52) (g : Nat → Int64) (hF52 : F 52 = .inl (G.2.1 1, 1, .inr (.inl g))) (a0 a1 : Int32) : vx_Met l yL_claim wsL_claim ({ frames := 7, cells := 1, slots := 6, locals := 114 }) (ck_P G H [.ref (ad 0), .int a0, .int a1, .ref (ad 52)]) (ck_Qi G (ck_wrp G ad N F (ck_wr (fun k r V1 => ck_Rclaim V nc a0 a1 k r V1) L nc nr))) (fun _ _ _ => False) 1 6 (ck_A G) := by
  refine vx_ofWH (cc := cL_claim) (maxL := 5) (ret := (some .int)) (hh := [(0, 10, 13, 30), (0, 10, 17, 13)]) (by decide) rfl ?_
  intro p e s m args below meth c s₁ B hml hv
  obtain ⟨rfl, hH, hKK⟩ := hv
  subst hH
  have hx := B.exec
  have hb := B.bytes
  have hr := B.returns
  have hts := atoms_spec (ws := wsL_claim) B.pre
  have hown : s.vm.findClass RL = some m.cls := findClass_of_methodNamed B.named
  have hlocks := B.notSynchronized
  have hKK0 := hKK
  have hK := hKK.1.1
  have hS : va_S (ck_A G) s.heap s.heap [] := va_S.rf
  have htab : c.exceptionTable.toList = tableOf [(0, 10, 13, 30), (0, 10, 17, 13)] := vx_table (x := yL_claim) B (hts _ List.mem_cons_self)
  have hl := lv_entry ([.ref (ad 0), .int a0, .int a1, .ref (ad 52)]) (n := 5) (Nat.le_of_ble_eq_true rfl)
  rw [lg_entry_eq]
  generalize (lg_sl ([.ref (ad 0), .int a0, .int a1, .ref (ad 52)]) ++ List.replicate (5 - (lg_sl ([.ref (ad 0), .int a0, .int a1, .ref (ad 52)])).length) Slot.unset).toArray = ls at hl ⊢
  have hl : lv_has ls 5 [(0, .ref (ad 0)), (1, .int a0), (2, .int a1), (3, .ref (ad 52))] := hl
  refine lv_aload_n hx hb dL_claim_0 rfl (lv_at hl 3 rfl) ?_
  refine lv_iconst (v := 0) hx hb dL_claim_1 (by decide) ?_
  refine lv_aload_n hx hb dL_claim_2 rfl (lv_at hl 0 rfl) ?_
  refine lv_iload_n hx hb dL_claim_3 rfl (lv_at hl 1 rfl) ?_
  refine lv_iload_n hx hb dL_claim_4 rfl (lv_at hl 2 rfl) ?_
  refine ck_cXi (As := [.int a0, .int a1]) (rest := [.int 0, .ref (ad 52)]) ⟨hx, hb, hml, hown, hts⟩ hKK (ct_X4_claim l G s.heap ad N F hW V L nc nr hC hlt a0 a1) (cwV 2 hts gL_claim_X4_claim rfl rfl rfl (by decide +kernel) ⟨Nat.le_of_ble_eq_true rfl, Nat.le_of_ble_eq_true rfl⟩) (ck_recv hK hW (hC.n 0 (by decide)) hC.f0 rfl) rfl hl rfl (Nat.le_of_ble_eq_true rfl) dL_claim_5 ⟨Nat.le_of_ble_eq_true rfl, Nat.le_of_ble_eq_true rfl⟩ hS (fun E ce q9 H locs hP hW hS hce hcv hcl => ?_) (fun r H locs hP hz hS => ?_)
  · obtain ⟨k, r, hR, hE⟩ := hP
    rcases hE with ⟨rfl, rfl⟩ | ⟨rfl, rfl⟩
    · skip
      refine vx_catch (name := ck_IOB) hown [] ⟨0, 10, 13, 30⟩ [⟨0, 10, 17, 13⟩] (by rw [htab]; rfl) (fun z hz => nomatch hz) (by decide) (by decide) (hts _ (List.mem_of_getElem? (i := 1) rfl)) ((hKK0.1.2.2.2.1.1 ck_IOB (List.mem_of_getElem? (i := 2) rfl)).use rfl) hce hcv hcl ?_
      refine ck_pc (q := 13) rfl ?_
      refine lv_astore (lv' := [(4, .ref q9), (0, .ref (ad 0)), (1, .int a0), (2, .int a1), (3, .ref (ad 52))]) hx hb dL_claim_13 hl (by decide) rfl (fun ls hl => ?_)
      refine lv_iconst (v := 1) hx hb dL_claim_15 (by decide) ?_
      exact vx_ret (W.iret (v := 1) hx hb hr (fun t ht hW9 => ⟨⟨_, rfl, by rw [ht]; exact ck_wrp.no (by decide) ⟨hR, rfl, rfl, rfl⟩ hF52 hW hC⟩, hS.F ht⟩) hS.2.2 dL_claim_16)
    · skip
      refine vx_catch (name := ck_IAE) hown [⟨0, 10, 13, 30⟩] ⟨0, 10, 17, 13⟩ [] (by rw [htab]; rfl) (fun z hz => by cases List.mem_singleton.mp hz; exact Or.inr ⟨by decide, ck_IOB, (hts _ (List.mem_of_getElem? (i := 1) rfl)), hKK0.1.2.2.2.2.1 (ck_IAE, ck_IOB) (List.mem_of_getElem? (i := 3) rfl)⟩) (by decide) (by decide) (hts _ (List.mem_of_getElem? (i := 2) rfl)) ((hKK0.1.2.2.2.1.1 ck_IAE (List.mem_of_getElem? (i := 0) rfl)).use rfl) hce hcv hcl ?_
      refine ck_pc (q := 17) rfl ?_
      refine lv_astore (lv' := [(4, .ref q9), (0, .ref (ad 0)), (1, .int a0), (2, .int a1), (3, .ref (ad 52))]) hx hb dL_claim_17 hl (by decide) rfl (fun ls hl => ?_)
      refine lv_iconst (v := 2) hx hb dL_claim_19 (by decide) ?_
      exact vx_ret (W.iret (v := 2) hx hb hr (fun t ht hW9 => ⟨⟨_, rfl, by rw [ht]; exact ck_wrp.no (by decide) ⟨hR, rfl, rfl, rfl⟩ hF52 hW hC⟩, hS.F ht⟩) hS.2.2 dL_claim_20)
  · obtain ⟨V1, F1, hR, hW, hC, hs⟩ := hP
    refine lv_i2l (v := (r : Int32).toInt64) hx hb dL_claim_8 rfl ?_
    refine ck_last hx hb hK hW hS hN52 ((hs 52 (by decide) (by decide)).trans hF52) 0 (by decide) (by decide) (by decide) dL_claim_9 (fun H locs hW hS hz2 => ?_)
    obtain ⟨F2, hFe, hFo, hW⟩ := ck_name hW
    refine lv_goto (tgt := 21) hx hb dL_claim_10 (by decide) ?_
    refine lv_iconst (v := 0) hx hb dL_claim_21 (by decide) ?_
    exact vx_ret (W.iret (v := 0) hx hb hr (fun t ht hW9 => ⟨⟨_, rfl, by rw [ht]; exact ck_wrp.yes ⟨hR, rfl, rfl, rfl⟩ (fun _ h => h) hs hFe hFo hW hC⟩, hS.F ht⟩) hS.2.2 dL_claim_22)
set_option maxHeartbeats 4000000 in
set_option maxRecDepth 100000 in
theorem ct_L_difference (l : Launch) (G : ck_G) (H : Heap) (ad : Nat → Nat) (N : Nat → Prop) (F : Nat → va_E) (hW : ck_W G ad N F H) (V : Nat → Nat → Int32) (L : Nat → Nat → Int64) (nc nr : Nat) (hC : ck_C G ad V L nc nr N F) (hlt : l.stackTraces = false) (hN52 : N 52) (g : Nat → Int64) (hF52 : F 52 = .inl (G.2.1 1, 1, .inr (.inl g))) (a0 : Int32) : vx_Met l yL_difference wsL_difference ({ frames := 7, cells := 1, slots := 6, locals := 111 }) (ck_P G H [.ref (ad 0), .int a0, .ref (ad 52)]) (ck_Qi G (ck_wrp G ad N F (ck_ro (fun k r => ck_Rsum (fun q => ck_df V q nc) a0 k r) V L nc nr))) (fun _ _ _ => False) 1 6 (ck_A G) := by
  refine vx_ofWH (cc := cL_difference) (maxL := 4) (ret := (some .int)) (hh := [(0, 9, 12, 13)]) (by decide) rfl ?_
  intro p e s m args below meth c s₁ B hml hv
  obtain ⟨rfl, hH, hKK⟩ := hv
  subst hH
  have hx := B.exec
  have hb := B.bytes
  have hr := B.returns
  have hts := atoms_spec (ws := wsL_difference) B.pre
  have hown : s.vm.findClass RL = some m.cls := findClass_of_methodNamed B.named
  have hlocks := B.notSynchronized
  have hKK0 := hKK
  have hK := hKK.1.1
  have hS : va_S (ck_A G) s.heap s.heap [] := va_S.rf
  have htab : c.exceptionTable.toList = tableOf [(0, 9, 12, 13)] := vx_table (x := yL_difference) B (hts _ List.mem_cons_self)
  have hl := lv_entry ([.ref (ad 0), .int a0, .ref (ad 52)]) (n := 4) (Nat.le_of_ble_eq_true rfl)
  rw [lg_entry_eq]
  generalize (lg_sl ([.ref (ad 0), .int a0, .ref (ad 52)]) ++ List.replicate (4 - (lg_sl ([.ref (ad 0), .int a0, .ref (ad 52)])).length) Slot.unset).toArray = ls at hl ⊢
  have hl : lv_has ls 4 [(0, .ref (ad 0)), (1, .int a0), (2, .ref (ad 52))] := hl
  refine lv_aload_n hx hb dL_difference_0 rfl (lv_at hl 2 rfl) ?_
  refine lv_iconst (v := 0) hx hb dL_difference_1 (by decide) ?_
  refine lv_aload_n hx hb dL_difference_2 rfl (lv_at hl 0 rfl) ?_
  refine lv_iload_n hx hb dL_difference_3 rfl (lv_at hl 1 rfl) ?_
  refine ck_cXi (As := [.int a0]) (rest := [.int 0, .ref (ad 52)]) ⟨hx, hb, hml, hown, hts⟩ hKK (ct_X4_difference l G s.heap ad N F hW V L nc nr hC hlt a0) (cwV 1 hts gL_difference_X4_difference rfl rfl rfl (by decide +kernel) ⟨Nat.le_of_ble_eq_true rfl, Nat.le_of_ble_eq_true rfl⟩) (ck_recv hK hW (hC.n 0 (by decide)) hC.f0 rfl) rfl hl rfl (Nat.le_of_ble_eq_true rfl) dL_difference_4 ⟨Nat.le_of_ble_eq_true rfl, Nat.le_of_ble_eq_true rfl⟩ hS (fun E ce q9 H locs hP hW hS hce hcv hcl => ?_) (fun r H locs hP hz hS => ?_)
  · obtain ⟨k, r, hR, hE⟩ := hP
    obtain ⟨rfl, rfl⟩ := hE
    refine vx_catch (name := ck_IAE) hown [] ⟨0, 9, 12, 13⟩ [] (by rw [htab]; rfl) (fun z hz => nomatch hz) (by decide) (by decide) (hts _ (List.mem_of_getElem? (i := 1) rfl)) ((hKK0.1.2.2.2.1.1 ck_IAE (List.mem_of_getElem? (i := 0) rfl)).use rfl) hce hcv hcl ?_
    refine ck_pc (q := 12) rfl ?_
    refine lv_astore_n (lv' := [(3, .ref q9), (0, .ref (ad 0)), (1, .int a0), (2, .ref (ad 52))]) hx hb dL_difference_12 rfl hl (by decide) rfl (fun ls hl => ?_)
    refine lv_iconst (v := 1) hx hb dL_difference_13 (by decide) ?_
    exact vx_ret (W.iret (v := 1) hx hb hr (fun t ht hW9 => ⟨⟨_, rfl, by rw [ht]; exact ck_wrp.no (by decide) ⟨hR, rfl, rfl, rfl, rfl⟩ hF52 hW hC⟩, hS.F ht⟩) hS.2.2 dL_difference_14)
  · obtain ⟨hR, hW⟩ := hP
    refine lv_i2l (v := (r : Int32).toInt64) hx hb dL_difference_7 rfl ?_
    refine ck_last hx hb hK hW hS hN52 hF52 0 (by decide) (by decide) (by decide) dL_difference_8 (fun H locs hW hS hz2 => ?_)
    obtain ⟨F2, hFe, hFo, hW⟩ := ck_name hW
    refine lv_goto (tgt := 15) hx hb dL_difference_9 (by decide) ?_
    refine lv_iconst (v := 0) hx hb dL_difference_15 (by decide) ?_
    exact vx_ret (W.iret (v := 0) hx hb hr (fun t ht hW9 => ⟨⟨_, rfl, by rw [ht]; exact ck_wrp.yes ⟨hR, rfl, rfl, rfl, rfl⟩ (fun _ h => h) (fun _ _ _ => rfl) hFe hFo hW hC⟩, hS.F ht⟩) hS.2.2 dL_difference_16)
set_option maxHeartbeats 4000000 in
set_option maxRecDepth 100000 in
theorem ct_L_narrow (l : Launch) (G : ck_G) (H : Heap) (ad : Nat → Nat) (N : Nat → Prop) (F : Nat → va_E) (hW : ck_W G ad N F H) (V : Nat → Nat → Int32) (L : Nat → Nat → Int64) (nc nr : Nat) (hC : ck_C G ad V L nc nr N F) (hlt : l.stackTraces = false) (hN52 : N 52) (g : Nat → Int64) (hF52 : F 52 = .inl (G.2.1 1, 1, .inr (.inl g))) (a0 : Int32) : vx_Met l yL_narrow wsL_narrow ({ frames := 7, cells := 1, slots := 6, locals := 135 }) (ck_P G H [.ref (ad 0), .int a0, .ref (ad 52)]) (ck_Qi G (ck_wrp G ad N F (ck_ro (fun k r => ck_Rnar V nc a0 k r) V L nc nr))) (fun _ _ _ => False) 1 6 (ck_A G) := by
  refine vx_ofWH (cc := cL_narrow) (maxL := 4) (ret := (some .int)) (hh := [(0, 9, 12, 13)]) (by decide) rfl ?_
  intro p e s m args below meth c s₁ B hml hv
  obtain ⟨rfl, hH, hKK⟩ := hv
  subst hH
  have hx := B.exec
  have hb := B.bytes
  have hr := B.returns
  have hts := atoms_spec (ws := wsL_narrow) B.pre
  have hown : s.vm.findClass RL = some m.cls := findClass_of_methodNamed B.named
  have hlocks := B.notSynchronized
  have hKK0 := hKK
  have hK := hKK.1.1
  have hS : va_S (ck_A G) s.heap s.heap [] := va_S.rf
  have htab : c.exceptionTable.toList = tableOf [(0, 9, 12, 13)] := vx_table (x := yL_narrow) B (hts _ List.mem_cons_self)
  have hl := lv_entry ([.ref (ad 0), .int a0, .ref (ad 52)]) (n := 4) (Nat.le_of_ble_eq_true rfl)
  rw [lg_entry_eq]
  generalize (lg_sl ([.ref (ad 0), .int a0, .ref (ad 52)]) ++ List.replicate (4 - (lg_sl ([.ref (ad 0), .int a0, .ref (ad 52)])).length) Slot.unset).toArray = ls at hl ⊢
  have hl : lv_has ls 4 [(0, .ref (ad 0)), (1, .int a0), (2, .ref (ad 52))] := hl
  refine lv_aload_n hx hb dL_narrow_0 rfl (lv_at hl 2 rfl) ?_
  refine lv_iconst (v := 0) hx hb dL_narrow_1 (by decide) ?_
  refine lv_aload_n hx hb dL_narrow_2 rfl (lv_at hl 0 rfl) ?_
  refine lv_iload_n hx hb dL_narrow_3 rfl (lv_at hl 1 rfl) ?_
  refine ck_cXi (As := [.int a0]) (rest := [.int 0, .ref (ad 52)]) ⟨hx, hb, hml, hown, hts⟩ hKK (ct_X4_narrow l G s.heap ad N F hW V L nc nr hC hlt a0) (cwV 1 hts gL_narrow_X4_narrow rfl rfl rfl (by decide +kernel) ⟨Nat.le_of_ble_eq_true rfl, Nat.le_of_ble_eq_true rfl⟩) (ck_recv hK hW (hC.n 0 (by decide)) hC.f0 rfl) rfl hl rfl (Nat.le_of_ble_eq_true rfl) dL_narrow_4 ⟨Nat.le_of_ble_eq_true rfl, Nat.le_of_ble_eq_true rfl⟩ hS (fun E ce q9 H locs hP hW hS hce hcv hcl => ?_) (fun r H locs hP hz hS => ?_)
  · obtain ⟨k, r, hR, hE⟩ := hP
    obtain ⟨rfl, rfl⟩ := hE
    refine vx_catch (name := ck_IAE) hown [] ⟨0, 9, 12, 13⟩ [] (by rw [htab]; rfl) (fun z hz => nomatch hz) (by decide) (by decide) (hts _ (List.mem_of_getElem? (i := 1) rfl)) ((hKK0.1.2.2.2.1.1 ck_IAE (List.mem_of_getElem? (i := 0) rfl)).use rfl) hce hcv hcl ?_
    refine ck_pc (q := 12) rfl ?_
    refine lv_astore_n (lv' := [(3, .ref q9), (0, .ref (ad 0)), (1, .int a0), (2, .ref (ad 52))]) hx hb dL_narrow_12 rfl hl (by decide) rfl (fun ls hl => ?_)
    refine lv_iconst (v := 1) hx hb dL_narrow_13 (by decide) ?_
    exact vx_ret (W.iret (v := 1) hx hb hr (fun t ht hW9 => ⟨⟨_, rfl, by rw [ht]; exact ck_wrp.no (by decide) ⟨hR, rfl, rfl, rfl, rfl⟩ hF52 hW hC⟩, hS.F ht⟩) hS.2.2 dL_narrow_14)
  · obtain ⟨hR, hW⟩ := hP
    refine lv_i2l (v := (r : Int32).toInt64) hx hb dL_narrow_7 rfl ?_
    refine ck_last hx hb hK hW hS hN52 hF52 0 (by decide) (by decide) (by decide) dL_narrow_8 (fun H locs hW hS hz2 => ?_)
    obtain ⟨F2, hFe, hFo, hW⟩ := ck_name hW
    refine lv_goto (tgt := 15) hx hb dL_narrow_9 (by decide) ?_
    refine lv_iconst (v := 0) hx hb dL_narrow_15 (by decide) ?_
    exact vx_ret (W.iret (v := 0) hx hb hr (fun t ht hW9 => ⟨⟨_, rfl, by rw [ht]; exact ck_wrp.yes ⟨hR, rfl, rfl, rfl, rfl⟩ (fun _ h => h) (fun _ _ _ => rfl) hFe hFo hW hC⟩, hS.F ht⟩) hS.2.2 dL_narrow_16)
set_option maxHeartbeats 4000000 in
set_option maxRecDepth 100000 in
theorem ct_L_worst (l : Launch) (G : ck_G) (H : Heap) (ad : Nat → Nat) (N : Nat → Prop) (F : Nat → va_E) (hW : ck_W G ad N F H) (V : Nat → Nat → Int32) (L : Nat → Nat → Int64) (nc nr : Nat) (hC : ck_C G ad V L nc nr N F) (hlt : l.stackTraces = false) (hN52 : N 52) (g : Nat → Int64) (hF52 : F 52 = .inl (G.2.1 1, 1, .inr (.inl g))) : vx_Met l yL_worst wsL_worst ({ frames := 7, cells := 1, slots := 6, locals := 115 }) (ck_P G H [.ref (ad 0), .ref (ad 52)]) (ck_Qi G (ck_wrp G ad N F (ck_ro (fun k r => ck_Rworst V nc k r) V L nc nr))) (fun _ _ _ => False) 1 6 (ck_A G) := by
  refine vx_ofWH (cc := cL_worst) (maxL := 3) (ret := (some .int)) (hh := [(0, 8, 11, 43)]) (by decide) rfl ?_
  intro p e s m args below meth c s₁ B hml hv
  obtain ⟨rfl, hH, hKK⟩ := hv
  subst hH
  have hx := B.exec
  have hb := B.bytes
  have hr := B.returns
  have hts := atoms_spec (ws := wsL_worst) B.pre
  have hown : s.vm.findClass RL = some m.cls := findClass_of_methodNamed B.named
  have hlocks := B.notSynchronized
  have hKK0 := hKK
  have hK := hKK.1.1
  have hS : va_S (ck_A G) s.heap s.heap [] := va_S.rf
  have htab : c.exceptionTable.toList = tableOf [(0, 8, 11, 43)] := vx_table (x := yL_worst) B (hts _ List.mem_cons_self)
  have hl := lv_entry ([.ref (ad 0), .ref (ad 52)]) (n := 3) (Nat.le_of_ble_eq_true rfl)
  rw [lg_entry_eq]
  generalize (lg_sl ([.ref (ad 0), .ref (ad 52)]) ++ List.replicate (3 - (lg_sl ([.ref (ad 0), .ref (ad 52)])).length) Slot.unset).toArray = ls at hl ⊢
  have hl : lv_has ls 3 [(0, .ref (ad 0)), (1, .ref (ad 52))] := hl
  refine lv_aload_n hx hb dL_worst_0 rfl (lv_at hl 1 rfl) ?_
  refine lv_iconst (v := 0) hx hb dL_worst_1 (by decide) ?_
  refine lv_aload_n hx hb dL_worst_2 rfl (lv_at hl 0 rfl) ?_
  refine ck_cXi (As := []) (rest := [.int 0, .ref (ad 52)]) ⟨hx, hb, hml, hown, hts⟩ hKK (ct_X4_worst l G s.heap ad N F hW V L nc nr hC hlt) (cwV 0 hts gL_worst_X4_worst rfl rfl rfl (by decide +kernel) ⟨Nat.le_of_ble_eq_true rfl, Nat.le_of_ble_eq_true rfl⟩) (ck_recv hK hW (hC.n 0 (by decide)) hC.f0 rfl) rfl hl rfl (Nat.le_of_ble_eq_true rfl) dL_worst_3 ⟨Nat.le_of_ble_eq_true rfl, Nat.le_of_ble_eq_true rfl⟩ hS (fun E ce q9 H locs hP hW hS hce hcv hcl => ?_) (fun r H locs hP hz hS => ?_)
  · obtain ⟨k, r, hR, hE⟩ := hP
    obtain ⟨rfl, rfl⟩ := hE
    refine vx_catch (name := ck_NSE) hown [] ⟨0, 8, 11, 43⟩ [] (by rw [htab]; rfl) (fun z hz => nomatch hz) (by decide) (by decide) (hts _ (List.mem_of_getElem? (i := 1) rfl)) ((hKK0.1.2.2.2.1.1 ck_NSE (List.mem_of_getElem? (i := 3) rfl)).use rfl) hce hcv hcl ?_
    refine ck_pc (q := 11) rfl ?_
    refine lv_astore_n (lv' := [(2, .ref q9), (0, .ref (ad 0)), (1, .ref (ad 52))]) hx hb dL_worst_11 rfl hl (by decide) rfl (fun ls hl => ?_)
    refine lv_iconst (v := 1) hx hb dL_worst_12 (by decide) ?_
    exact vx_ret (W.iret (v := 1) hx hb hr (fun t ht hW9 => ⟨⟨_, rfl, by rw [ht]; exact ck_wrp.no (by decide) ⟨hR, rfl, rfl, rfl, rfl⟩ hF52 hW hC⟩, hS.F ht⟩) hS.2.2 dL_worst_13)
  · obtain ⟨hR, hW⟩ := hP
    refine lv_i2l (v := (r : Int32).toInt64) hx hb dL_worst_6 rfl ?_
    refine ck_last hx hb hK hW hS hN52 hF52 0 (by decide) (by decide) (by decide) dL_worst_7 (fun H locs hW hS hz2 => ?_)
    obtain ⟨F2, hFe, hFo, hW⟩ := ck_name hW
    refine lv_goto (tgt := 14) hx hb dL_worst_8 (by decide) ?_
    refine lv_iconst (v := 0) hx hb dL_worst_14 (by decide) ?_
    exact vx_ret (W.iret (v := 0) hx hb hr (fun t ht hW9 => ⟨⟨_, rfl, by rw [ht]; exact ck_wrp.yes ⟨hR, rfl, rfl, rfl, rfl⟩ (fun _ h => h) (fun _ _ _ => rfl) hFe hFo hW hC⟩, hS.F ht⟩) hS.2.2 dL_worst_15)
