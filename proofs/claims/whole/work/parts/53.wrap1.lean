set_option maxHeartbeats 4000000 in
set_option maxRecDepth 100000 in
theorem ct_L_setBound (l : Launch) (G : ck_G) (H : Heap) (ad : Nat → Nat) (N : Nat → Prop) (F : Nat → va_E) (hW : ck_W G ad N F H) (V : Nat → Nat → Int32) (L : Nat → Nat → Int64) (nc nr : Nat) (hC : ck_C G ad V L nc nr N F) (hlt : l.stackTraces = false) (hN52 : N 52) (g : Nat → Int64) (hF52 : F 52 = .inl (G.2.1 1, 1, .inr (.inl g))) (a0 : Int32) : vx_Met l yL_setBound wsL_setBound ({ frames := 7, cells := 1, slots := 6, locals := 112 }) (ck_P G H [.ref (ad 0), .int a0, .ref (ad 52)]) (ck_Qi G (ck_wo G ad N F (ck_wr (fun k r V1 => ck_Rset V a0 k r V1) L nc nr))) (fun _ _ _ => False) 1 6 (ck_A G) := by
  refine vx_ofWH (cc := cL_setBound) (maxL := 4) (ret := (some .int)) (hh := [(0, 9, 12, 13)]) (by decide) rfl ?_
  intro p e s m args below meth c s₁ B hml hv
  obtain ⟨rfl, hH, hKK⟩ := hv
  subst hH
  have hx := B.exec
  have hb := B.bytes
  have hr := B.returns
  have hts := atoms_spec (ws := wsL_setBound) B.pre
  have hown : s.vm.findClass RL = some m.cls := findClass_of_methodNamed B.named
  have hlocks := B.notSynchronized
  have hKK0 := hKK
  have hK := hKK.1.1
  have hS : va_S (ck_A G) s.heap s.heap [] := va_S.rf
  have htab : c.exceptionTable.toList = tableOf [(0, 9, 12, 13)] := vx_table B (hts _ List.mem_cons_self)
  have hl := lv_entry ([.ref (ad 0), .int a0, .ref (ad 52)]) (n := 4) (Nat.le_of_ble_eq_true rfl)
  rw [lg_entry_eq]
  generalize (lg_sl ([.ref (ad 0), .int a0, .ref (ad 52)]) ++ List.replicate (4 - (lg_sl ([.ref (ad 0), .int a0, .ref (ad 52)])).length) Slot.unset).toArray = ls at hl ⊢
  have hl : lv_has ls 4 [(0, .ref (ad 0)), (1, .int a0), (2, .ref (ad 52))] := hl
  refine lv_aload_n hx hb dL_setBound_0 rfl (lv_at hl 2 rfl) ?_
  refine lv_iconst (v := 0) hx hb dL_setBound_1 (by decide) ?_
  refine lv_aload_n hx hb dL_setBound_2 rfl (lv_at hl 0 rfl) ?_
  refine lv_iload_n hx hb dL_setBound_3 rfl (lv_at hl 1 rfl) ?_
  refine ck_cXi (As := [.int a0]) (rest := [.int 0, .ref (ad 52)]) ⟨hx, hb, hml, hown, hts⟩ hKK (ct_X4_setBound l G s.heap ad N F hW V L nc nr hC hlt a0) (cwV 1 hts gL_setBound_X4_setBound rfl rfl rfl (by decide +kernel) ⟨Nat.le_of_ble_eq_true rfl, Nat.le_of_ble_eq_true rfl⟩) (ck_recv hK hW (hC.n 0 (by decide)) hC.f0 rfl) rfl hl rfl (Nat.le_of_ble_eq_true rfl) dL_setBound_4 ⟨Nat.le_of_ble_eq_true rfl, Nat.le_of_ble_eq_true rfl⟩ hS (fun E ce q9 H locs hP hW hS hce hcv hcl => ?_) (fun r H locs hP hz hS => ?_)
  · obtain ⟨k, r, hR, hE⟩ := hP
    obtain ⟨rfl, rfl⟩ := hE
    refine vx_catch (name := ck_IAE) hown [] ⟨0, 9, 12, 13⟩ [] (by rw [htab]; rfl) (fun z hz => nomatch hz) (by decide) (by decide) (hts _ (List.mem_of_getElem? (i := 1) rfl)) ((hKK0.1.2.2.2.1.1 ck_IAE (List.mem_of_getElem? (i := 0) rfl)).use rfl) hce hcv hcl ?_
    refine ck_pc (q := 12) rfl ?_
    refine lv_astore_n (lv' := [(3, .ref q9), (0, .ref (ad 0)), (1, .int a0), (2, .ref (ad 52))]) hx hb dL_setBound_12 rfl hl (by decide) rfl (fun ls hl => ?_)
    refine lv_iconst (v := 1) hx hb dL_setBound_13 (by decide) ?_
    exact vx_ret (W.iret (v := 1) hx hb hr (fun t ht hW9 => ⟨⟨_, rfl, by rw [ht]; exact ck_wo.no (by decide) ⟨hR, rfl, rfl, rfl⟩ hF52 hW hC⟩, hS.F ht⟩) hS.2.2 dL_setBound_14)
  · obtain ⟨V1, F1, hR, hW, hC, hs⟩ := hP
    refine lv_i2l (v := (r : Int32).toInt64) hx hb dL_setBound_7 rfl ?_
    refine ck_last hx hb hK hW hS hN52 ((hs 52 (by decide) (by decide)).trans hF52) 0 (by decide) (by decide) (by decide) dL_setBound_8 (fun H locs hW hS hz2 => ?_)
    obtain ⟨F2, hFe, hFo, hW⟩ := ck_name hW
    refine lv_goto (tgt := 15) hx hb dL_setBound_9 (by decide) ?_
    refine lv_iconst (v := 0) hx hb dL_setBound_15 (by decide) ?_
    exact vx_ret (W.iret (v := 0) hx hb hr (fun t ht hW9 => ⟨⟨_, rfl, by rw [ht]; exact ck_wo.yes ⟨hR, rfl, rfl, rfl⟩ (fun _ h => h) hs hFe hFo hW hC⟩, hS.F ht⟩) hS.2.2 dL_setBound_16)
set_option maxHeartbeats 4000000 in
set_option maxRecDepth 100000 in
theorem ct_L_addRate (l : Launch) (G : ck_G) (H : Heap) (ad : Nat → Nat) (N : Nat → Prop) (F : Nat → va_E) (hW : ck_W G ad N F H) (V : Nat → Nat → Int32) (L : Nat → Nat → Int64) (nc nr : Nat) (hC : ck_C G ad V L nc nr N F) (hlt : l.stackTraces = false) (hN52 : N 52) (g : Nat → Int64) (hF52 : F 52 = .inl (G.2.1 1, 1, .inr (.inl g))) (a0 a1 a2 a3 a4 a5 : Int32) (hnw : ¬ N (200 + nr)) (haw : ad (200 + nr) = H.size) : vx_Met l yL_addRate wsL_addRate ({ frames := 7, cells := 1, slots := 7, locals := 117 }) (ck_P G H [.ref (ad 0), .int a0, .int a1, .int a2, .int a3, .int a4, .int a5, .ref (ad 52)]) (ck_Qi G (ck_wo G ad N F (ck_wa (fun k r V1 nr1 => ck_Radd V nr a0 a1 a2 a3 a4 a5 k r V1 nr1) L nc))) (fun _ _ _ => False) 1 7 (ck_A G) := by
  refine vx_ofWH (cc := cL_addRate) (maxL := 9) (ret := (some .int)) (hh := [(0, 18, 21, 13), (0, 18, 25, 19)]) (by decide) rfl ?_
  intro p e s m args below meth c s₁ B hml hv
  obtain ⟨rfl, hH, hKK⟩ := hv
  subst hH
  have hx := B.exec
  have hb := B.bytes
  have hr := B.returns
  have hts := atoms_spec (ws := wsL_addRate) B.pre
  have hown : s.vm.findClass RL = some m.cls := findClass_of_methodNamed B.named
  have hlocks := B.notSynchronized
  have hKK0 := hKK
  have hK := hKK.1.1
  have hS : va_S (ck_A G) s.heap s.heap [] := va_S.rf
  have htab : c.exceptionTable.toList = tableOf [(0, 18, 21, 13), (0, 18, 25, 19)] := vx_table B (hts _ List.mem_cons_self)
  have hl := lv_entry ([.ref (ad 0), .int a0, .int a1, .int a2, .int a3, .int a4, .int a5, .ref (ad 52)]) (n := 9) (Nat.le_of_ble_eq_true rfl)
  rw [lg_entry_eq]
  generalize (lg_sl ([.ref (ad 0), .int a0, .int a1, .int a2, .int a3, .int a4, .int a5, .ref (ad 52)]) ++ List.replicate (9 - (lg_sl ([.ref (ad 0), .int a0, .int a1, .int a2, .int a3, .int a4, .int a5, .ref (ad 52)])).length) Slot.unset).toArray = ls at hl ⊢
  have hl : lv_has ls 9 [(0, .ref (ad 0)), (1, .int a0), (2, .int a1), (3, .int a2), (4, .int a3), (5, .int a4), (6, .int a5), (7, .ref (ad 52))] := hl
  refine lv_aload hx hb dL_addRate_0 (lv_at hl 7 rfl) ?_
  refine lv_iconst (v := 0) hx hb dL_addRate_2 (by decide) ?_
  refine lv_aload_n hx hb dL_addRate_3 rfl (lv_at hl 0 rfl) ?_
  refine lv_iload_n hx hb dL_addRate_4 rfl (lv_at hl 1 rfl) ?_
  refine lv_iload_n hx hb dL_addRate_5 rfl (lv_at hl 2 rfl) ?_
  refine lv_iload_n hx hb dL_addRate_6 rfl (lv_at hl 3 rfl) ?_
  refine lv_iload hx hb dL_addRate_7 (lv_at hl 4 rfl) ?_
  refine lv_iload hx hb dL_addRate_9 (lv_at hl 5 rfl) ?_
  refine lv_iload hx hb dL_addRate_11 (lv_at hl 6 rfl) ?_
  refine ck_cXi (As := [.int a0, .int a1, .int a2, .int a3, .int a4, .int a5]) (rest := [.int 0, .ref (ad 52)]) ⟨hx, hb, hml, hown, hts⟩ hKK (ct_X4_addRate l G s.heap ad N F hW V L nc nr hC hlt a0 a1 a2 a3 a4 a5 hnw haw) (cwV 6 hts gL_addRate_X4_addRate rfl rfl rfl (by decide +kernel) ⟨Nat.le_of_ble_eq_true rfl, Nat.le_of_ble_eq_true rfl⟩) (ck_recv hK hW (hC.n 0 (by decide)) hC.f0 rfl) rfl hl rfl (Nat.le_of_ble_eq_true rfl) dL_addRate_13 ⟨Nat.le_of_ble_eq_true rfl, Nat.le_of_ble_eq_true rfl⟩ hS (fun E ce q9 H locs hP hW hS hce hcv hcl => ?_) (fun r H locs hP hz hS => ?_)
  · obtain ⟨k, r, hR, hE⟩ := hP
    rcases hE with ⟨rfl, rfl⟩ | ⟨rfl, rfl⟩
    · skip
      refine vx_catch (name := ck_IAE) hown [] ⟨0, 18, 21, 13⟩ [⟨0, 18, 25, 19⟩] (by rw [htab]; rfl) (fun z hz => nomatch hz) (by decide) (by decide) (hts _ (List.mem_of_getElem? (i := 1) rfl)) ((hKK0.1.2.2.2.1.1 ck_IAE (List.mem_of_getElem? (i := 0) rfl)).use rfl) hce hcv hcl ?_
      refine ck_pc (q := 21) rfl ?_
      refine lv_astore (lv' := [(8, .ref q9), (0, .ref (ad 0)), (1, .int a0), (2, .int a1), (3, .int a2), (4, .int a3), (5, .int a4), (6, .int a5), (7, .ref (ad 52))]) hx hb dL_addRate_21 hl (by decide) rfl (fun ls hl => ?_)
      refine lv_iconst (v := 1) hx hb dL_addRate_23 (by decide) ?_
      exact vx_ret (W.iret (v := 1) hx hb hr (fun t ht hW9 => ⟨⟨_, rfl, by rw [ht]; exact ck_wo.no (by decide) ⟨hR, rfl, rfl⟩ hF52 hW hC⟩, hS.F ht⟩) hS.2.2 dL_addRate_24)
    · skip
      refine vx_catch (name := ck_ISE) hown [⟨0, 18, 21, 13⟩] ⟨0, 18, 25, 19⟩ [] (by rw [htab]; rfl) (fun z hz => by cases List.mem_singleton.mp hz; exact Or.inr ⟨by decide, ck_IAE, (hts _ (List.mem_of_getElem? (i := 1) rfl)), hKK0.1.2.2.2.2.1 (ck_ISE, ck_IAE) (List.mem_of_getElem? (i := 0) rfl)⟩) (by decide) (by decide) (hts _ (List.mem_of_getElem? (i := 2) rfl)) ((hKK0.1.2.2.2.1.1 ck_ISE (List.mem_of_getElem? (i := 1) rfl)).use rfl) hce hcv hcl ?_
      refine ck_pc (q := 25) rfl ?_
      refine lv_astore (lv' := [(8, .ref q9), (0, .ref (ad 0)), (1, .int a0), (2, .int a1), (3, .int a2), (4, .int a3), (5, .int a4), (6, .int a5), (7, .ref (ad 52))]) hx hb dL_addRate_25 hl (by decide) rfl (fun ls hl => ?_)
      refine lv_iconst (v := 2) hx hb dL_addRate_27 (by decide) ?_
      exact vx_ret (W.iret (v := 2) hx hb hr (fun t ht hW9 => ⟨⟨_, rfl, by rw [ht]; exact ck_wo.no (by decide) ⟨hR, rfl, rfl⟩ hF52 hW hC⟩, hS.F ht⟩) hS.2.2 dL_addRate_28)
  · obtain ⟨V1, nr1, N1, F1, hR, hNs, -, hW, hC, hs⟩ := hP
    refine lv_i2l (v := (r : Int32).toInt64) hx hb dL_addRate_16 rfl ?_
    refine ck_last hx hb hK hW hS (hNs _ hN52) ((hs 52 (by decide) (by decide)).trans hF52) 0 (by decide) (by decide) (by decide) dL_addRate_17 (fun H locs hW hS hz2 => ?_)
    obtain ⟨F2, hFe, hFo, hW⟩ := ck_name hW
    refine lv_goto (tgt := 29) hx hb dL_addRate_18 (by decide) ?_
    refine lv_iconst (v := 0) hx hb dL_addRate_29 (by decide) ?_
    exact vx_ret (W.iret (v := 0) hx hb hr (fun t ht hW9 => ⟨⟨_, rfl, by rw [ht]; exact ck_wo.yes ⟨hR, rfl, rfl⟩ hNs hs hFe hFo hW hC⟩, hS.F ht⟩) hS.2.2 dL_addRate_30)
set_option maxHeartbeats 4000000 in
set_option maxRecDepth 100000 in
theorem ct_L_claim (l : Launch) (G : ck_G) (H : Heap) (ad : Nat → Nat) (N : Nat → Prop) (F : Nat → va_E) (hW : ck_W G ad N F H) (V : Nat → Nat → Int32) (L : Nat → Nat → Int64) (nc nr : Nat) (hC : ck_C G ad V L nc nr N F) (hlt : l.stackTraces = false) (hN52 : N 52) (g : Nat → Int64) (hF52 : F 52 = .inl (G.2.1 1, 1, .inr (.inl g))) (a0 a1 : Int32) : vx_Met l yL_claim wsL_claim ({ frames := 7, cells := 1, slots := 6, locals := 114 }) (ck_P G H [.ref (ad 0), .int a0, .int a1, .ref (ad 52)]) (ck_Qi G (ck_wo G ad N F (ck_wr (fun k r V1 => ck_Rclaim V nc a0 a1 k r V1) L nc nr))) (fun _ _ _ => False) 1 6 (ck_A G) := by
  refine vx_ofWH (cc := cL_claim) (maxL := 5) (ret := (some .int)) (hh := [(0, 10, 13, 30), (0, 10, 17, 13)]) (by decide) rfl ?_
  intro p e s m args below meth c s₁ B hml hv
  obtain ⟨rfl, hH, hKK⟩ := hv
  subst hH
  have hx := B.exec
  have hb := B.bytes
  have hr := B.returns
  have hts := atoms_spec (ws := wsL_claim) B.pre
  have hown : s.vm.findClass RL = some m.cls := findClass_of_methodNamed B.named
  have hlocks := B.notSynchronized
  have hKK0 := hKK
  have hK := hKK.1.1
  have hS : va_S (ck_A G) s.heap s.heap [] := va_S.rf
  have htab : c.exceptionTable.toList = tableOf [(0, 10, 13, 30), (0, 10, 17, 13)] := vx_table B (hts _ List.mem_cons_self)
  have hl := lv_entry ([.ref (ad 0), .int a0, .int a1, .ref (ad 52)]) (n := 5) (Nat.le_of_ble_eq_true rfl)
  rw [lg_entry_eq]
  generalize (lg_sl ([.ref (ad 0), .int a0, .int a1, .ref (ad 52)]) ++ List.replicate (5 - (lg_sl ([.ref (ad 0), .int a0, .int a1, .ref (ad 52)])).length) Slot.unset).toArray = ls at hl ⊢
  have hl : lv_has ls 5 [(0, .ref (ad 0)), (1, .int a0), (2, .int a1), (3, .ref (ad 52))] := hl
  refine lv_aload_n hx hb dL_claim_0 rfl (lv_at hl 3 rfl) ?_
  refine lv_iconst (v := 0) hx hb dL_claim_1 (by decide) ?_
  refine lv_aload_n hx hb dL_claim_2 rfl (lv_at hl 0 rfl) ?_
  refine lv_iload_n hx hb dL_claim_3 rfl (lv_at hl 1 rfl) ?_
  refine lv_iload_n hx hb dL_claim_4 rfl (lv_at hl 2 rfl) ?_
  refine ck_cXi (As := [.int a0, .int a1]) (rest := [.int 0, .ref (ad 52)]) ⟨hx, hb, hml, hown, hts⟩ hKK (ct_X4_claim l G s.heap ad N F hW V L nc nr hC hlt a0 a1) (cwV 2 hts gL_claim_X4_claim rfl rfl rfl (by decide +kernel) ⟨Nat.le_of_ble_eq_true rfl, Nat.le_of_ble_eq_true rfl⟩) (ck_recv hK hW (hC.n 0 (by decide)) hC.f0 rfl) rfl hl rfl (Nat.le_of_ble_eq_true rfl) dL_claim_5 ⟨Nat.le_of_ble_eq_true rfl, Nat.le_of_ble_eq_true rfl⟩ hS (fun E ce q9 H locs hP hW hS hce hcv hcl => ?_) (fun r H locs hP hz hS => ?_)
  · obtain ⟨k, r, hR, hE⟩ := hP
    rcases hE with ⟨rfl, rfl⟩ | ⟨rfl, rfl⟩
    · skip
      refine vx_catch (name := ck_IOB) hown [] ⟨0, 10, 13, 30⟩ [⟨0, 10, 17, 13⟩] (by rw [htab]; rfl) (fun z hz => nomatch hz) (by decide) (by decide) (hts _ (List.mem_of_getElem? (i := 1) rfl)) ((hKK0.1.2.2.2.1.1 ck_IOB (List.mem_of_getElem? (i := 2) rfl)).use rfl) hce hcv hcl ?_
      refine ck_pc (q := 13) rfl ?_
      refine lv_astore (lv' := [(4, .ref q9), (0, .ref (ad 0)), (1, .int a0), (2, .int a1), (3, .ref (ad 52))]) hx hb dL_claim_13 hl (by decide) rfl (fun ls hl => ?_)
      refine lv_iconst (v := 1) hx hb dL_claim_15 (by decide) ?_
      exact vx_ret (W.iret (v := 1) hx hb hr (fun t ht hW9 => ⟨⟨_, rfl, by rw [ht]; exact ck_wo.no (by decide) ⟨hR, rfl, rfl, rfl⟩ hF52 hW hC⟩, hS.F ht⟩) hS.2.2 dL_claim_16)
    · skip
      refine vx_catch (name := ck_IAE) hown [⟨0, 10, 13, 30⟩] ⟨0, 10, 17, 13⟩ [] (by rw [htab]; rfl) (fun z hz => by cases List.mem_singleton.mp hz; exact Or.inr ⟨by decide, ck_IOB, (hts _ (List.mem_of_getElem? (i := 1) rfl)), hKK0.1.2.2.2.2.1 (ck_IAE, ck_IOB) (List.mem_of_getElem? (i := 3) rfl)⟩) (by decide) (by decide) (hts _ (List.mem_of_getElem? (i := 2) rfl)) ((hKK0.1.2.2.2.1.1 ck_IAE (List.mem_of_getElem? (i := 0) rfl)).use rfl) hce hcv hcl ?_
      refine ck_pc (q := 17) rfl ?_
      refine lv_astore (lv' := [(4, .ref q9), (0, .ref (ad 0)), (1, .int a0), (2, .int a1), (3, .ref (ad 52))]) hx hb dL_claim_17 hl (by decide) rfl (fun ls hl => ?_)
      refine lv_iconst (v := 2) hx hb dL_claim_19 (by decide) ?_
      exact vx_ret (W.iret (v := 2) hx hb hr (fun t ht hW9 => ⟨⟨_, rfl, by rw [ht]; exact ck_wo.no (by decide) ⟨hR, rfl, rfl, rfl⟩ hF52 hW hC⟩, hS.F ht⟩) hS.2.2 dL_claim_20)
  · obtain ⟨V1, F1, hR, hW, hC, hs⟩ := hP
    refine lv_i2l (v := (r : Int32).toInt64) hx hb dL_claim_8 rfl ?_
    refine ck_last hx hb hK hW hS hN52 ((hs 52 (by decide) (by decide)).trans hF52) 0 (by decide) (by decide) (by decide) dL_claim_9 (fun H locs hW hS hz2 => ?_)
    obtain ⟨F2, hFe, hFo, hW⟩ := ck_name hW
    refine lv_goto (tgt := 21) hx hb dL_claim_10 (by decide) ?_
    refine lv_iconst (v := 0) hx hb dL_claim_21 (by decide) ?_
    exact vx_ret (W.iret (v := 0) hx hb hr (fun t ht hW9 => ⟨⟨_, rfl, by rw [ht]; exact ck_wo.yes ⟨hR, rfl, rfl, rfl⟩ (fun _ h => h) hs hFe hFo hW hC⟩, hS.F ht⟩) hS.2.2 dL_claim_22)
