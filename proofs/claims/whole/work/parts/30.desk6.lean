def ck_px (a1 a0 : Int32) : Int32 := if a1 = -1 then 0 else a0
/-- what a new price does to a carrier's two rows -/
def ck_Rrp (f h : Nat → Int32) (a0 a1 r : Int32) (f1 h1 : Nat → Int32) : Prop :=
  (∃ b, b < 10 ∧ ck_place f a0 = nI b ∧ f b = a0 ∧ r = h b ∧ f1 = upd f b (ck_px a1 a0) ∧ h1 = upd h b a1) ∨
  (ck_place f a0 = -1 ∧ ∃ b, b < 10 ∧ ck_place f 0 = nI b ∧ f b = 0 ∧ r = -1 ∧ f1 = upd f b (ck_px a1 a0) ∧ h1 = upd h b a1) ∨
  (ck_place f a0 = -1 ∧ ck_place f 0 = -1 ∧ r = -1 ∧ f1 = f ∧ h1 = h)
set_option maxHeartbeats 4000000 in
set_option maxRecDepth 100000 in
theorem ct_X1_replacePrice (l : Launch) (G : ck_G) (H : Heap) (ad : Nat → Nat) (N : Nat → Prop) (F : Nat → va_E) (hW : ck_W G ad N F H) (i : Nat) (hN : N i) (j k : Nat) (hF : F i = .inr (1, [.ref (ad j), .ref (ad k)])) (hNj : N j) (f : Nat → Int32) (hFj : F j = .inl (G.2.1 0, 10, .inl f)) (hNk : N k) (h : Nat → Int32) (hFk : F k = .inl (G.2.1 0, 10, .inl h)) (hij : i ≠ j) (hik : i ≠ k) (hjk : j ≠ k) (a0 a1 : Int32) : Met l yX1_replacePrice wsX1_replacePrice ({ frames := 1, cells := 0, slots := 0, locals := 22 }) (ck_P G H [.ref (ad i), .int a0, .int a1]) (ck_Qi G (fun r H1 => ∃ f1 h1 F1, ck_Rrp f h a0 a1 r f1 h1 ∧ F1 j = .inl (G.2.1 0, 10, .inl f1) ∧ F1 k = .inl (G.2.1 0, 10, .inl h1) ∧ (∀ q, q ≠ j → q ≠ k → F1 q = F q) ∧ ck_W G ad N F1 H1)) 0 0 (ck_A G) := by
  refine Met.ofW (cc := cX1_replacePrice) (maxL := 5) (ret := (some .int)) (by decide) rfl ?_
  intro p e s m args below meth c s₁ B hml hv
  obtain ⟨rfl, hH, hKK⟩ := hv
  subst hH
  have hx := B.exec
  have hb := B.bytes
  have hr := B.returns
  have hts := atoms_spec (ws := wsX1_replacePrice) B.pre
  have hown : s.vm.findClass RX1 = some m.cls := findClass_of_methodNamed B.named
  have hlocks := B.notSynchronized
  have hKK0 := hKK
  have hK := hKK.1.1
  have hS : va_S (ck_A G) s.heap s.heap [] := va_S.rf
  have hinX1 : ∀ w ∈ u_ws RX1 TX1 2, w ∈ wsX1_replacePrice := by decide +kernel
  have hl := lv_entry ([.ref (ad i), .int a0, .int a1]) (n := 5) (Nat.le_of_ble_eq_true rfl)
  rw [lg_entry_eq]
  generalize (lg_sl ([.ref (ad i), .int a0, .int a1]) ++ List.replicate (5 - (lg_sl ([.ref (ad i), .int a0, .int a1])).length) Slot.unset).toArray = ls at hl ⊢
  have hl : lv_has ls 5 [(0, .ref (ad i)), (1, .int a0), (2, .int a1)] := hl
  refine lv_aload_n hx hb dX1_replacePrice_0 rfl (lv_at hl 0 rfl) ?_
  refine lv_iload_n hx hb dX1_replacePrice_1 rfl (lv_at hl 1 rfl) ?_
  refine ck_cVi (As := [.int a0]) (rest := []) ⟨hx, hb, hml, hown, hts⟩ hKK (ct_X1_placeOf l G s.heap ad N F hW i hN j k hF hNj f hFj a0) (cwV 1 hts gX1_replacePrice_X1_placeOf rfl rfl rfl (by decide +kernel) ⟨Nat.le_of_ble_eq_true rfl, Nat.le_of_ble_eq_true rfl⟩) (ck_recv hK hW hN hF rfl) rfl hl rfl (Nat.le_of_ble_eq_true rfl) dX1_replacePrice_2 ⟨Nat.le_of_ble_eq_true rfl, Nat.le_of_ble_eq_true rfl⟩ (fun r_2 h_2 => ?_)
  subst h_2
  rcases ck_place_in f a0 with hpa | ⟨b, hb10, hpa, hfb⟩
  · skip
    refine lv_topi (fun y9 ey9 => ?_)
    have ey8 : y9 = -1 := ey9.trans (hpa)
    subst ey8
    refine lv_istore_n (lv' := [(3, .int (-1)), (0, .ref (ad i)), (1, .int a0), (2, .int a1)]) hx hb dX1_replacePrice_5 rfl hl (by decide) rfl (fun ls hl => ?_)
    refine lv_iload_n hx hb dX1_replacePrice_6 rfl (lv_at hl 0 rfl) ?_
    refine lv_iconst (v := (-1)) hx hb dX1_replacePrice_7 (by decide) ?_
    refine lv_icmp_ne (tgt := 15) hx hb dX1_replacePrice_8 (by decide) (fun c_8 => absurd (by decide) c_8) (fun _ => ?_)
    refine lv_iconst (v := (-1)) hx hb dX1_replacePrice_11 (by decide) ?_
    refine lv_goto (tgt := 21) hx hb dX1_replacePrice_12 (by decide) ?_
    refine lv_istore (lv' := [(4, .int (-1)), (3, .int (-1)), (0, .ref (ad i)), (1, .int a0), (2, .int a1)]) hx hb dX1_replacePrice_21 hl (by decide) rfl (fun ls hl => ?_)
    refine lv_iload_n hx hb dX1_replacePrice_23 rfl (lv_at hl 1 rfl) ?_
    refine lv_iconst (v := (-1)) hx hb dX1_replacePrice_24 (by decide) ?_
    refine lv_icmp_ne (tgt := 34) hx hb dX1_replacePrice_25 (by decide) (fun c_25 => absurd (by decide) c_25) (fun _ => ?_)
    refine lv_aload_n hx hb dX1_replacePrice_28 rfl (lv_at hl 2 rfl) ?_
    refine lv_iconst (v := 0) hx hb dX1_replacePrice_29 (by decide) ?_
    refine ck_cVi (As := [.int 0]) (rest := []) ⟨hx, hb, hml, hown, hts⟩ hKK (ct_X1_placeOf l G s.heap ad N F hW i hN j k hF hNj f hFj 0) (cwV 1 hts gX1_replacePrice_X1_placeOf rfl rfl rfl (by decide +kernel) ⟨Nat.le_of_ble_eq_true rfl, Nat.le_of_ble_eq_true rfl⟩) (ck_recv hK hW hN hF rfl) rfl hl rfl (Nat.le_of_ble_eq_true rfl) dX1_replacePrice_30 ⟨Nat.le_of_ble_eq_true rfl, Nat.le_of_ble_eq_true rfl⟩ (fun r_30 h_30 => ?_)
    subst h_30
    rcases ck_place_in f 0 with hpz | ⟨b, hb10, hpz, hfb⟩
    · skip
      refine lv_topi (fun y9 ey9 => ?_)
      have ey8 : y9 = -1 := ey9.trans (hpz)
      subst ey8
      refine lv_istore_n (lv' := [(3, .int (-1)), (4, .int (-1)), (0, .ref (ad i)), (1, .int a0), (2, .int a1)]) hx hb dX1_replacePrice_33 rfl hl (by decide) rfl (fun ls hl => ?_)
      refine lv_iload_n hx hb dX1_replacePrice_34 rfl (lv_at hl 0 rfl) ?_
      refine lv_iconst (v := (-1)) hx hb dX1_replacePrice_35 (by decide) ?_
      refine lv_icmp_eq (tgt := 62) hx hb dX1_replacePrice_36 (by decide) (fun _ => ?_) (fun c_36 => absurd (by decide) c_36)
      refine lv_iload hx hb dX1_replacePrice_62 (lv_at hl 1 rfl) ?_
      exact W.iret (v := (-1)) hx hb hr (fun t ht hW9 => ⟨⟨_, rfl, by rw [ht]; exact ⟨f, h, F, Or.inr (Or.inr ⟨hpa, hpz, rfl, rfl, rfl⟩), hFj, hFk, fun q _ _ => rfl, hW⟩⟩, hS.F ht⟩) hS.2.2 dX1_replacePrice_64
    · skip
      refine lv_topi (fun y9 ey9 => ?_)
      have ey8 : y9 = nI b := ey9.trans (hpz)
      subst ey8
      refine lv_istore_n (lv' := [(3, .int (nI b)), (4, .int (-1)), (0, .ref (ad i)), (1, .int a0), (2, .int a1)]) hx hb dX1_replacePrice_33 rfl hl (by decide) rfl (fun ls hl => ?_)
      refine lv_iload_n hx hb dX1_replacePrice_34 rfl (lv_at hl 0 rfl) ?_
      refine lv_iconst (v := (-1)) hx hb dX1_replacePrice_35 (by decide) ?_
      refine lv_icmp_eq (tgt := 62) hx hb dX1_replacePrice_36 (by decide) (fun c_36 => absurd c_36 (ck_m1 (by omega))) (fun _ => ?_)
      refine lv_aload_n hx hb dX1_replacePrice_39 rfl (lv_at hl 2 rfl) ?_
      refine ck_get (v := .ref (ad j)) hx hb hts hinX1 hown hK hW hN hF rfl 0 (by decide) (hts _ (List.mem_of_getElem? (i := 2) rfl)) rfl rfl dX1_replacePrice_40 ?_
      refine lv_iload_n hx hb dX1_replacePrice_43 rfl (lv_at hl 0 rfl) ?_
      refine lv_iload_n hx hb dX1_replacePrice_44 rfl (lv_at hl 4 rfl) ?_
      refine lv_iconst (v := (-1)) hx hb dX1_replacePrice_45 (by decide) ?_
      refine lv_icmp_ne (tgt := 53) hx hb dX1_replacePrice_46 (by decide) (fun c_46 => ?_) (fun c_46 => ?_)
      · skip
        refine lv_iload_n hx hb dX1_replacePrice_53 rfl (lv_at hl 3 rfl) ?_
        refine ck_iast hx hb hK hW hS hNj hFj b (rfl) (by omega) (by decide) dX1_replacePrice_54 (fun H locs hW hS hz54 => ?_)
        obtain ⟨F_54, hFe54, hFo54, hW⟩ := ck_name hW
        have hFI_54 := (hFo54 i (hij)).trans hF
        have hFK_54 := (hFo54 k (hjk.symm)).trans hFk
        have hKK := hKK0.keep hS.2.1
        refine lv_aload_n hx hb dX1_replacePrice_55 rfl (lv_at hl 2 rfl) ?_
        refine ck_get (v := .ref (ad k)) hx hb hts hinX1 hown hK hW hN hFI_54 rfl 1 (by decide) (hts _ (List.mem_of_getElem? (i := 1) rfl)) rfl rfl dX1_replacePrice_56 ?_
        refine lv_iload_n hx hb dX1_replacePrice_59 rfl (lv_at hl 0 rfl) ?_
        refine lv_iload_n hx hb dX1_replacePrice_60 rfl (lv_at hl 4 rfl) ?_
        refine ck_iast hx hb hK hW hS hNk hFK_54 b (rfl) (by omega) (by decide) dX1_replacePrice_61 (fun H locs hW hS hz61 => ?_)
        obtain ⟨F_61, hFe61, hFo61, hW⟩ := ck_name hW
        have hFI_61 := (hFo61 i (hik)).trans hFI_54
        have hFJ_61 := (hFo61 j (hjk)).trans hFe54
        have hKK := hKK0.keep hS.2.1
        refine lv_iload hx hb dX1_replacePrice_62 (lv_at hl 1 rfl) ?_
        exact W.iret (v := (-1)) hx hb hr (fun t ht hW9 => ⟨⟨_, rfl, by rw [ht]; exact ⟨(upd f b a0), (upd h b a1), F_61, Or.inr (Or.inl ⟨hpa, b, hb10, hpz, hfb, rfl, by rw [ck_px, if_neg c_46], rfl⟩), hFJ_61, hFe61, fun q h1 h2 => (hFo61 q h2).trans (hFo54 q h1), hW⟩⟩, hS.F ht⟩) hS.2.2 dX1_replacePrice_64
      · skip
        refine lv_iconst (v := 0) hx hb dX1_replacePrice_49 (by decide) ?_
        refine lv_goto (tgt := 54) hx hb dX1_replacePrice_50 (by decide) ?_
        refine ck_iast hx hb hK hW hS hNj hFj b (rfl) (by omega) (by decide) dX1_replacePrice_54 (fun H locs hW hS hz54 => ?_)
        obtain ⟨F_54, hFe54, hFo54, hW⟩ := ck_name hW
        have hFI_54 := (hFo54 i (hij)).trans hF
        have hFK_54 := (hFo54 k (hjk.symm)).trans hFk
        have hKK := hKK0.keep hS.2.1
        refine lv_aload_n hx hb dX1_replacePrice_55 rfl (lv_at hl 2 rfl) ?_
        refine ck_get (v := .ref (ad k)) hx hb hts hinX1 hown hK hW hN hFI_54 rfl 1 (by decide) (hts _ (List.mem_of_getElem? (i := 1) rfl)) rfl rfl dX1_replacePrice_56 ?_
        refine lv_iload_n hx hb dX1_replacePrice_59 rfl (lv_at hl 0 rfl) ?_
        refine lv_iload_n hx hb dX1_replacePrice_60 rfl (lv_at hl 4 rfl) ?_
        refine ck_iast hx hb hK hW hS hNk hFK_54 b (rfl) (by omega) (by decide) dX1_replacePrice_61 (fun H locs hW hS hz61 => ?_)
        obtain ⟨F_61, hFe61, hFo61, hW⟩ := ck_name hW
        have hFI_61 := (hFo61 i (hik)).trans hFI_54
        have hFJ_61 := (hFo61 j (hjk)).trans hFe54
        have hKK := hKK0.keep hS.2.1
        refine lv_iload hx hb dX1_replacePrice_62 (lv_at hl 1 rfl) ?_
        exact W.iret (v := (-1)) hx hb hr (fun t ht hW9 => ⟨⟨_, rfl, by rw [ht]; exact ⟨(upd f b 0), (upd h b a1), F_61, Or.inr (Or.inl ⟨hpa, b, hb10, hpz, hfb, rfl, by rw [ck_px, if_pos c_46], rfl⟩), hFJ_61, hFe61, fun q h1 h2 => (hFo61 q h2).trans (hFo54 q h1), hW⟩⟩, hS.F ht⟩) hS.2.2 dX1_replacePrice_64
  · skip
    refine lv_topi (fun y9 ey9 => ?_)
    have ey8 : y9 = nI b := ey9.trans (hpa)
    subst ey8
    refine lv_istore_n (lv' := [(3, .int (nI b)), (0, .ref (ad i)), (1, .int a0), (2, .int a1)]) hx hb dX1_replacePrice_5 rfl hl (by decide) rfl (fun ls hl => ?_)
    refine lv_iload_n hx hb dX1_replacePrice_6 rfl (lv_at hl 0 rfl) ?_
    refine lv_iconst (v := (-1)) hx hb dX1_replacePrice_7 (by decide) ?_
    refine lv_icmp_ne (tgt := 15) hx hb dX1_replacePrice_8 (by decide) (fun _ => ?_) (fun c_8 => absurd c_8 (ck_m1 (by omega)))
    refine lv_aload_n hx hb dX1_replacePrice_15 rfl (lv_at hl 1 rfl) ?_
    refine ck_get (v := .ref (ad k)) hx hb hts hinX1 hown hK hW hN hF rfl 1 (by decide) (hts _ (List.mem_of_getElem? (i := 1) rfl)) rfl rfl dX1_replacePrice_16 ?_
    refine lv_iload_n hx hb dX1_replacePrice_19 rfl (lv_at hl 0 rfl) ?_
    refine ck_iald hx hb hK hW hNk hFk b (rfl) (by omega) (by decide) dX1_replacePrice_20 ?_
    refine lv_istore (lv' := [(4, .int (h b)), (3, .int (nI b)), (0, .ref (ad i)), (1, .int a0), (2, .int a1)]) hx hb dX1_replacePrice_21 hl (by decide) rfl (fun ls hl => ?_)
    refine lv_iload_n hx hb dX1_replacePrice_23 rfl (lv_at hl 1 rfl) ?_
    refine lv_iconst (v := (-1)) hx hb dX1_replacePrice_24 (by decide) ?_
    refine lv_icmp_ne (tgt := 34) hx hb dX1_replacePrice_25 (by decide) (fun _ => ?_) (fun c_25 => absurd c_25 (ck_m1 (by omega)))
    refine lv_iload_n hx hb dX1_replacePrice_34 rfl (lv_at hl 1 rfl) ?_
    refine lv_iconst (v := (-1)) hx hb dX1_replacePrice_35 (by decide) ?_
    refine lv_icmp_eq (tgt := 62) hx hb dX1_replacePrice_36 (by decide) (fun c_36 => absurd c_36 (ck_m1 (by omega))) (fun _ => ?_)
    refine lv_aload_n hx hb dX1_replacePrice_39 rfl (lv_at hl 2 rfl) ?_
    refine ck_get (v := .ref (ad j)) hx hb hts hinX1 hown hK hW hN hF rfl 0 (by decide) (hts _ (List.mem_of_getElem? (i := 2) rfl)) rfl rfl dX1_replacePrice_40 ?_
    refine lv_iload_n hx hb dX1_replacePrice_43 rfl (lv_at hl 1 rfl) ?_
    refine lv_iload_n hx hb dX1_replacePrice_44 rfl (lv_at hl 4 rfl) ?_
    refine lv_iconst (v := (-1)) hx hb dX1_replacePrice_45 (by decide) ?_
    refine lv_icmp_ne (tgt := 53) hx hb dX1_replacePrice_46 (by decide) (fun c_46 => ?_) (fun c_46 => ?_)
    · skip
      refine lv_iload_n hx hb dX1_replacePrice_53 rfl (lv_at hl 3 rfl) ?_
      refine ck_iast hx hb hK hW hS hNj hFj b (rfl) (by omega) (by decide) dX1_replacePrice_54 (fun H locs hW hS hz54 => ?_)
      obtain ⟨F_54, hFe54, hFo54, hW⟩ := ck_name hW
      have hFI_54 := (hFo54 i (hij)).trans hF
      have hFK_54 := (hFo54 k (hjk.symm)).trans hFk
      have hKK := hKK0.keep hS.2.1
      refine lv_aload_n hx hb dX1_replacePrice_55 rfl (lv_at hl 2 rfl) ?_
      refine ck_get (v := .ref (ad k)) hx hb hts hinX1 hown hK hW hN hFI_54 rfl 1 (by decide) (hts _ (List.mem_of_getElem? (i := 1) rfl)) rfl rfl dX1_replacePrice_56 ?_
      refine lv_iload_n hx hb dX1_replacePrice_59 rfl (lv_at hl 1 rfl) ?_
      refine lv_iload_n hx hb dX1_replacePrice_60 rfl (lv_at hl 4 rfl) ?_
      refine ck_iast hx hb hK hW hS hNk hFK_54 b (rfl) (by omega) (by decide) dX1_replacePrice_61 (fun H locs hW hS hz61 => ?_)
      obtain ⟨F_61, hFe61, hFo61, hW⟩ := ck_name hW
      have hFI_61 := (hFo61 i (hik)).trans hFI_54
      have hFJ_61 := (hFo61 j (hjk)).trans hFe54
      have hKK := hKK0.keep hS.2.1
      refine lv_iload hx hb dX1_replacePrice_62 (lv_at hl 0 rfl) ?_
      exact W.iret (v := (h b)) hx hb hr (fun t ht hW9 => ⟨⟨_, rfl, by rw [ht]; exact ⟨(upd f b a0), (upd h b a1), F_61, Or.inl ⟨b, hb10, hpa, hfb, rfl, by rw [ck_px, if_neg c_46], rfl⟩, hFJ_61, hFe61, fun q h1 h2 => (hFo61 q h2).trans (hFo54 q h1), hW⟩⟩, hS.F ht⟩) hS.2.2 dX1_replacePrice_64
    · skip
      refine lv_iconst (v := 0) hx hb dX1_replacePrice_49 (by decide) ?_
      refine lv_goto (tgt := 54) hx hb dX1_replacePrice_50 (by decide) ?_
      refine ck_iast hx hb hK hW hS hNj hFj b (rfl) (by omega) (by decide) dX1_replacePrice_54 (fun H locs hW hS hz54 => ?_)
      obtain ⟨F_54, hFe54, hFo54, hW⟩ := ck_name hW
      have hFI_54 := (hFo54 i (hij)).trans hF
      have hFK_54 := (hFo54 k (hjk.symm)).trans hFk
      have hKK := hKK0.keep hS.2.1
      refine lv_aload_n hx hb dX1_replacePrice_55 rfl (lv_at hl 2 rfl) ?_
      refine ck_get (v := .ref (ad k)) hx hb hts hinX1 hown hK hW hN hFI_54 rfl 1 (by decide) (hts _ (List.mem_of_getElem? (i := 1) rfl)) rfl rfl dX1_replacePrice_56 ?_
      refine lv_iload_n hx hb dX1_replacePrice_59 rfl (lv_at hl 1 rfl) ?_
      refine lv_iload_n hx hb dX1_replacePrice_60 rfl (lv_at hl 4 rfl) ?_
      refine ck_iast hx hb hK hW hS hNk hFK_54 b (rfl) (by omega) (by decide) dX1_replacePrice_61 (fun H locs hW hS hz61 => ?_)
      obtain ⟨F_61, hFe61, hFo61, hW⟩ := ck_name hW
      have hFI_61 := (hFo61 i (hik)).trans hFI_54
      have hFJ_61 := (hFo61 j (hjk)).trans hFe54
      have hKK := hKK0.keep hS.2.1
      refine lv_iload hx hb dX1_replacePrice_62 (lv_at hl 0 rfl) ?_
      exact W.iret (v := (h b)) hx hb hr (fun t ht hW9 => ⟨⟨_, rfl, by rw [ht]; exact ⟨(upd f b 0), (upd h b a1), F_61, Or.inl ⟨b, hb10, hpa, hfb, rfl, by rw [ck_px, if_pos c_46], rfl⟩, hFJ_61, hFe61, fun q h1 h2 => (hFo61 q h2).trans (hFo54 q h1), hW⟩⟩, hS.F ht⟩) hS.2.2 dX1_replacePrice_64
theorem ck_C.setK {G : ck_G} {ad : Nat → Nat} {V : Nat → Nat → Int32} {L : Nat → Nat → Int64} {nc nr : Nat} {N : Nat → Prop} {F F1 : Nat → va_E} (h : ck_C G ad V L nc nr N F) {k : Nat} (hk : k < 4) {f1 h1 : Nat → Int32} (e1 : F1 (15 + k) = .inl (G.2.1 0, 10, .inl f1)) (e2 : F1 (19 + k) = .inl (G.2.1 0, 10, .inl h1)) (o : ∀ q, q ≠ 15 + k → q ≠ 19 + k → F1 q = F q) : ck_C G ad (va_up (va_up V (20 + k) f1) (24 + k) h1) L nc nr N F1 := by
  have hn := h.nc
  have hV : ∀ i, i < 20 → va_up (va_up V (20 + k) f1) (24 + k) h1 i = V i := fun i hi => by rw [va_up_ne _ _ (by omega), va_up_ne _ _ (by omega)]
  have hG : va_up (va_up V (20 + k) f1) (24 + k) h1 (24 + k) = h1 := va_up_self _ _ _
  have hP : va_up (va_up V (20 + k) f1) (24 + k) h1 (20 + k) = f1 := by rw [va_up_ne _ _ (by omega), va_up_self]
  exact ⟨h.nc, h.nr, (o 0 (by omega) (by omega)).trans (by rw [hV 13 (by decide)]; exact h.f0), (by obtain ⟨f, e3, e4⟩ := h.f1; exact ⟨f, (o 1 (by omega) (by omega)).trans e3, e4⟩), (by obtain ⟨f, e3, e4⟩ := h.f2; exact ⟨f, (o 2 (by omega) (by omega)).trans e3, e4⟩), (by obtain ⟨f, e3, e4⟩ := h.f3; exact ⟨f, (o 3 (by omega) (by omega)).trans e3, e4⟩), (by obtain ⟨f, e3, e4⟩ := h.f4; exact ⟨f, (o 4 (by omega) (by omega)).trans e3, e4⟩), (fun q hq => (o (5 + q) (by omega) (by omega)).trans (by rw [hV 14 (by decide), hV 16 (by decide), hV 17 (by decide), hV 15 (by decide)]; exact h.src q hq)), (fun q hq => (o (8 + q) (by omega) (by omega)).trans (h.del q hq)), (fun q hq => (o (11 + q) (by omega) (by omega)).trans (h.car q hq)), (fun q hq => by
    by_cases e9 : q = k
    · subst e9; rw [hP]; exact e1
    · rw [va_up_ne _ _ (by omega), va_up_ne _ _ (by omega)]; exact (o (15 + q) (by omega) (by omega)).trans (h.pre q hq)), (fun q hq => by
    by_cases e9 : q = k
    · subst e9; rw [hG]; exact e2
    · rw [va_up_ne _ _ (by omega), va_up_ne _ _ (by omega)]; exact (o (19 + q) (by omega) (by omega)).trans (h.pri q hq)), (fun q hq => (o (100 + q) (by omega) (by omega)).trans (by rw [hV 0 (by decide), hV 1 (by decide), hV 2 (by decide), hV 3 (by decide), hV 4 (by decide), hV 5 (by decide), hV 6 (by decide)]; exact h.call q hq)), (fun q hq => (o (200 + q) (by omega) (by omega)).trans (by rw [hV 7 (by decide), hV 8 (by decide), hV 9 (by decide), hV 10 (by decide), hV 11 (by decide), hV 12 (by decide)]; exact h.rate q hq)), h.n, h.ncall, h.nrate⟩
def ck_RoffC (V : Nat → Nat → Int32) (a0 a1 a2 k r : Int32) (V1 : Nat → Nat → Int32) : Prop := (¬ (ck_ok a0 4 ∧ ck_isP a1 ∧ (-1 ≤ a2 ∧ a2 ≤ 10000)) ∧ k = 1 ∧ V1 = V) ∨ ((ck_isP a1 ∧ (-1 ≤ a2 ∧ a2 ≤ 10000)) ∧ ∃ q, q < 4 ∧ a0 = nI q ∧
  ((¬ a2 = -1 ∧ ¬ (¬ ck_place (V (20 + q)) a1 = -1 ∨ ¬ ck_place (V (20 + q)) 0 = -1) ∧ k = 2 ∧ V1 = V) ∨
   ((a2 = -1 ∨ (¬ ck_place (V (20 + q)) a1 = -1 ∨ ¬ ck_place (V (20 + q)) 0 = -1)) ∧ k = 0 ∧ ∃ f1 h1, ck_Rrp (V (20 + q)) (V (24 + q)) a1 a2 r f1 h1 ∧ V1 = va_up (va_up V (20 + q) f1) (24 + q) h1)))
set_option maxHeartbeats 4000000 in
set_option maxRecDepth 100000 in
theorem ct_X4_offer (l : Launch) (G : ck_G) (H : Heap) (ad : Nat → Nat) (N : Nat → Prop) (F : Nat → va_E) (hW : ck_W G ad N F H) (V : Nat → Nat → Int32) (L : Nat → Nat → Int64) (nc nr : Nat) (hC : ck_C G ad V L nc nr N F) (hlt : l.stackTraces = false) (a0 a1 a2 : Int32) : vx_Met l yX4_offer wsX4_offer ({ frames := 6, cells := 1, slots := 6, locals := 90 }) (ck_P G H [.ref (ad 0), .int a0, .int a1, .int a2]) (ck_Qi G (fun r H1 => ∃ V1 F1, ck_RoffC V a0 a1 a2 0 r V1 ∧ ck_W G ad N F1 H1 ∧ ck_C G ad V1 L nc nr N F1 ∧ ck_sD F F1)) (ck_Xc G (fun E => ∃ k r, ck_RoffC V a0 a1 a2 k r V ∧ ck_ex2 ck_IAE ck_ISE k E) ad N F) 1 6 (ck_A G) := by
  refine vx_ofW (cc := cX4_offer) (maxL := 5) (ret := (some .int)) (by decide) rfl ?_
  intro p e s m args below meth c s₁ B hml hnx hv
  obtain ⟨rfl, hH, hKK⟩ := hv
  subst hH
  have hx := B.exec
  have hb := B.bytes
  have hr := B.returns
  have hts := atoms_spec (ws := wsX4_offer) B.pre
  have hown : s.vm.findClass RX4 = some m.cls := findClass_of_methodNamed B.named
  have hlocks := B.notSynchronized
  have hKK0 := hKK
  have hK := hKK.1.1
  have hS : va_S (ck_A G) s.heap s.heap [] := va_S.rf
  have hl := lv_entry ([.ref (ad 0), .int a0, .int a1, .int a2]) (n := 5) (Nat.le_of_ble_eq_true rfl)
  rw [lg_entry_eq]
  generalize (lg_sl ([.ref (ad 0), .int a0, .int a1, .int a2]) ++ List.replicate (5 - (lg_sl ([.ref (ad 0), .int a0, .int a1, .int a2])).length) Slot.unset).toArray = ls at hl ⊢
  have hl : lv_has ls 5 [(0, .ref (ad 0)), (1, .int a0), (2, .int a1), (3, .int a2)] := hl
  have hsm : ck_sD F F := fun _ _ _ => rfl
  refine lv_aload_n hx hb dX4_offer_0 rfl (lv_at hl 0 rfl) ?_
  refine lv_iload_n hx hb dX4_offer_1 rfl (lv_at hl 1 rfl) ?_
  refine ck_cVq (As := [.int a0]) (rest := []) ⟨hx, hb, hml, hown, hts⟩ hKK (ct_X4_carrierAt l G s.heap ad N F hW V L nc nr hC a0) (cwV 1 hts gX4_offer_X4_carrierAt rfl rfl rfl (by decide +kernel) ⟨Nat.le_of_ble_eq_true rfl, Nat.le_of_ble_eq_true rfl⟩) (ck_recv hK hW (hC.n 0 (by decide)) hC.f0 rfl) rfl hl rfl (Nat.le_of_ble_eq_true rfl) dX4_offer_2 ⟨Nat.le_of_ble_eq_true rfl, Nat.le_of_ble_eq_true rfl⟩ (fun r_2 h_2 => ?_)
  rcases h_2 with ⟨j2, hj2, e2, rfl⟩ | ⟨hno2, rfl⟩
  · skip
    refine lv_astore (lv' := [(4, .ref (ad (11 + j2))), (0, .ref (ad 0)), (1, .int a0), (2, .int a1), (3, .int a2)]) hx hb dX4_offer_5 hl (by decide) rfl (fun ls hl => ?_)
    refine lv_aload hx hb dX4_offer_7 (lv_at hl 0 rfl) ?_
    refine lv_ifnull hx hb dX4_offer_9 ?_
    refine lv_iload_n hx hb dX4_offer_12 rfl (lv_at hl 3 rfl) ?_
    refine ck_cSi (As := [.int a1]) (rest := []) ⟨hx, hb, hml, hown, hts⟩ hKK (ct_X4_isPrefix l G s.heap a1) (va_cwS 1 hts gX4_offer_X4_isPrefix rfl rfl rfl (by decide +kernel) ⟨Nat.le_of_ble_eq_true rfl, Nat.le_of_ble_eq_true rfl⟩) rfl hl rfl (Nat.le_of_ble_eq_true rfl) dX4_offer_13 ⟨Nat.le_of_ble_eq_true rfl, Nat.le_of_ble_eq_true rfl⟩ (fun r_13 h_13 => ?_)
    rcases h_13 with ⟨h_13, rfl⟩ | ⟨h_13, rfl⟩
    · skip
      refine lv_if_eq (tgt := 30) hx hb dX4_offer_16 (by decide) (fun c_16 => absurd c_16 (by decide)) (fun _ => ?_)
      refine lv_iload_n hx hb dX4_offer_19 rfl (lv_at hl 4 rfl) ?_
      refine lv_iconst (v := (-1)) hx hb dX4_offer_20 (by decide) ?_
      refine lv_sipush (v := 10000) hx hb dX4_offer_21 (by decide) ?_
      refine ck_cSi (As := [.int a2, .int (-1), .int 10000]) (rest := []) ⟨hx, hb, hml, hown, hts⟩ hKK (ct_X4_within l G s.heap a2 ((-1)) 10000) (va_cwS 3 hts gX4_offer_X4_within rfl rfl rfl (by decide +kernel) ⟨Nat.le_of_ble_eq_true rfl, Nat.le_of_ble_eq_true rfl⟩) rfl hl rfl (Nat.le_of_ble_eq_true rfl) dX4_offer_24 ⟨Nat.le_of_ble_eq_true rfl, Nat.le_of_ble_eq_true rfl⟩ (fun r_24 h_24 => ?_)
      rcases h_24 with ⟨h_24, rfl⟩ | ⟨h_24, rfl⟩
      · skip
        refine lv_if_ne (tgt := 40) hx hb dX4_offer_27 (by decide) (fun _ => ?_) (fun c_27 => absurd c_27 (by decide))
        refine lv_iload_n hx hb dX4_offer_40 rfl (lv_at hl 4 rfl) ?_
        refine lv_iconst (v := (-1)) hx hb dX4_offer_41 (by decide) ?_
        refine lv_icmp_eq (tgt := 64) hx hb dX4_offer_42 (by decide) (fun c_42 => ?_) (fun c_42 => ?_)
        · skip
          refine lv_aload hx hb dX4_offer_64 (lv_at hl 0 rfl) ?_
          refine lv_iload_n hx hb dX4_offer_66 rfl (lv_at hl 3 rfl) ?_
          refine lv_iload_n hx hb dX4_offer_67 rfl (lv_at hl 4 rfl) ?_
          refine ck_cVw (As := [.int a1, .int a2]) (rest := []) ⟨hx, hb, hml, hown, hts⟩ hKK (ct_X1_replacePrice l G s.heap ad N F hW (11 + j2) (hC.n (11 + j2) (by omega)) (15 + j2) (19 + j2) (hC.car j2 hj2) (hC.n (15 + j2) (by omega)) _ (hC.pre j2 hj2) (hC.n (19 + j2) (by omega)) _ (hC.pri j2 hj2) (by omega) (by omega) (by omega) a1 a2) (cwV 2 hts gX4_offer_X1_replacePrice rfl rfl rfl (by decide +kernel) ⟨Nat.le_of_ble_eq_true rfl, Nat.le_of_ble_eq_true rfl⟩) (ck_recv hK hW (hC.n (11 + j2) (by omega)) (hC.car j2 hj2) rfl) rfl hl rfl (Nat.le_of_ble_eq_true rfl) dX4_offer_68 ⟨Nat.le_of_ble_eq_true rfl, Nat.le_of_ble_eq_true rfl⟩ hS (fun r_68 H locs h_68 hz_68 hS => ?_)
          have hKK := hKK0.keep hS.2.1
          obtain ⟨f68, h68, F_68, hR68, hFj68, hFk68, hFo68, hW⟩ := h_68
          have hC := hC.setK hj2 hFj68 hFk68 hFo68
          have hsm : ck_sD F F_68 := fun q h1 h2 => (hFo68 q (by omega) (by omega)).trans (hsm q h1 h2)
          refine W.widen (k := 1) (n := 6) (by decide) (by decide) ?_
          exact vx_ret (W.iret (v := r_68) hx hb hr (fun t ht hW9 => ⟨⟨_, rfl, by rw [ht]; exact ⟨_, F_68, Or.inr ⟨⟨h_13, h_24⟩, j2, hj2, e2, Or.inr ⟨Or.inl c_42, rfl, f68, h68, hR68, rfl⟩⟩, hW, hC, hsm⟩⟩, hS.F ht⟩) hS.2.2 dX4_offer_71)
        · skip
          refine lv_aload hx hb dX4_offer_45 (lv_at hl 0 rfl) ?_
          refine lv_iload_n hx hb dX4_offer_47 rfl (lv_at hl 3 rfl) ?_
          refine ck_cVi (As := [.int a1]) (rest := []) ⟨hx, hb, hml, hown, hts⟩ hKK (ct_X1_hasPlaceFor l G s.heap ad N F hW (11 + j2) (hC.n (11 + j2) (by omega)) (15 + j2) (19 + j2) (hC.car j2 hj2) (hC.n (15 + j2) (by omega)) ((V (20 + j2))) (hC.pre j2 hj2) a1) (cwV 1 hts gX4_offer_X1_hasPlaceFor rfl rfl rfl (by decide +kernel) ⟨Nat.le_of_ble_eq_true rfl, Nat.le_of_ble_eq_true rfl⟩) (ck_recv hK hW (hC.n (11 + j2) (by omega)) (hC.car j2 hj2) rfl) rfl hl rfl (Nat.le_of_ble_eq_true rfl) dX4_offer_48 ⟨Nat.le_of_ble_eq_true rfl, Nat.le_of_ble_eq_true rfl⟩ (fun r_48 h_48 => ?_)
          rcases h_48 with ⟨h_48, rfl⟩ | ⟨h_48, rfl⟩
          · skip
            refine lv_if_ne (tgt := 64) hx hb dX4_offer_51 (by decide) (fun _ => ?_) (fun c_51 => absurd c_51 (by decide))
            refine lv_aload hx hb dX4_offer_64 (lv_at hl 0 rfl) ?_
            refine lv_iload_n hx hb dX4_offer_66 rfl (lv_at hl 3 rfl) ?_
            refine lv_iload_n hx hb dX4_offer_67 rfl (lv_at hl 4 rfl) ?_
            refine ck_cVw (As := [.int a1, .int a2]) (rest := []) ⟨hx, hb, hml, hown, hts⟩ hKK (ct_X1_replacePrice l G s.heap ad N F hW (11 + j2) (hC.n (11 + j2) (by omega)) (15 + j2) (19 + j2) (hC.car j2 hj2) (hC.n (15 + j2) (by omega)) _ (hC.pre j2 hj2) (hC.n (19 + j2) (by omega)) _ (hC.pri j2 hj2) (by omega) (by omega) (by omega) a1 a2) (cwV 2 hts gX4_offer_X1_replacePrice rfl rfl rfl (by decide +kernel) ⟨Nat.le_of_ble_eq_true rfl, Nat.le_of_ble_eq_true rfl⟩) (ck_recv hK hW (hC.n (11 + j2) (by omega)) (hC.car j2 hj2) rfl) rfl hl rfl (Nat.le_of_ble_eq_true rfl) dX4_offer_68 ⟨Nat.le_of_ble_eq_true rfl, Nat.le_of_ble_eq_true rfl⟩ hS (fun r_68 H locs h_68 hz_68 hS => ?_)
            have hKK := hKK0.keep hS.2.1
            obtain ⟨f68, h68, F_68, hR68, hFj68, hFk68, hFo68, hW⟩ := h_68
            have hC := hC.setK hj2 hFj68 hFk68 hFo68
            have hsm : ck_sD F F_68 := fun q h1 h2 => (hFo68 q (by omega) (by omega)).trans (hsm q h1 h2)
            refine W.widen (k := 1) (n := 6) (by decide) (by decide) ?_
            exact vx_ret (W.iret (v := r_68) hx hb hr (fun t ht hW9 => ⟨⟨_, rfl, by rw [ht]; exact ⟨_, F_68, Or.inr ⟨⟨h_13, h_24⟩, j2, hj2, e2, Or.inr ⟨Or.inr h_48, rfl, f68, h68, hR68, rfl⟩⟩, hW, hC, hsm⟩⟩, hS.F ht⟩) hS.2.2 dX4_offer_71)
          · skip
            refine lv_if_ne (tgt := 64) hx hb dX4_offer_51 (by decide) (fun c_51 => absurd (by decide) c_51) (fun _ => ?_)
            exact ck_throw (cls := "java/lang/IllegalStateException") (text := "the carrier offers 10 prices") hx hb hlt hown hKK0 (by decide +kernel) (by decide +kernel) (hts _ (List.mem_of_getElem? (i := 3) rfl)) (hts _ (List.mem_of_getElem? (i := 4) rfl)) (List.mem_of_getElem? (i := 13) rfl) (List.mem_of_getElem? (i := 1) rfl) (fun w hw => hts w (List.mem_cons_of_mem _ (List.mem_append.mpr (Or.inr hw)))) (by decide +kernel) (by decide +kernel) hS (hl.1.trans hml.symm) dX4_offer_54 dX4_offer_57 dX4_offer_58 dX4_offer_60 dX4_offer_63 hnx (Nat.le_of_ble_eq_true rfl) (Nat.le_of_ble_eq_true rfl) (Nat.le_of_ble_eq_true rfl) (Nat.le_of_ble_eq_true rfl) hlocks (Nat.le_of_ble_eq_true rfl) (Nat.le_of_ble_eq_true rfl) hW (⟨2, 0, Or.inr ⟨⟨h_13, h_24⟩, j2, hj2, e2, Or.inl ⟨c_42, h_48, rfl, rfl⟩⟩, Or.inr ⟨rfl, rfl⟩⟩)
      · skip
        refine lv_if_ne (tgt := 40) hx hb dX4_offer_27 (by decide) (fun c_27 => absurd (by decide) c_27) (fun _ => ?_)
        exact ck_throw (cls := "java/lang/IllegalArgumentException") (text := "a parameter of the offer is out of range") hx hb hlt hown hKK0 (by decide +kernel) (by decide +kernel) (hts _ (List.mem_of_getElem? (i := 1) rfl)) (hts _ (List.mem_of_getElem? (i := 2) rfl)) (List.mem_of_getElem? (i := 12) rfl) (List.mem_of_getElem? (i := 0) rfl) (fun w hw => hts w (List.mem_cons_of_mem _ (List.mem_append.mpr (Or.inl (List.mem_append.mpr (Or.inr hw)))))) (by decide +kernel) (by decide +kernel) hS (hl.1.trans hml.symm) dX4_offer_30 dX4_offer_33 dX4_offer_34 dX4_offer_36 dX4_offer_39 hnx (Nat.le_of_ble_eq_true rfl) (Nat.le_of_ble_eq_true rfl) (Nat.le_of_ble_eq_true rfl) (Nat.le_of_ble_eq_true rfl) hlocks (Nat.le_of_ble_eq_true rfl) (Nat.le_of_ble_eq_true rfl) hW (⟨1, 0, Or.inl ⟨fun z => h_24 z.2.2, rfl, rfl⟩, Or.inl ⟨rfl, rfl⟩⟩)
    · skip
      refine lv_if_eq (tgt := 30) hx hb dX4_offer_16 (by decide) (fun _ => ?_) (fun c_16 => absurd (by decide) c_16)
      exact ck_throw (cls := "java/lang/IllegalArgumentException") (text := "a parameter of the offer is out of range") hx hb hlt hown hKK0 (by decide +kernel) (by decide +kernel) (hts _ (List.mem_of_getElem? (i := 1) rfl)) (hts _ (List.mem_of_getElem? (i := 2) rfl)) (List.mem_of_getElem? (i := 12) rfl) (List.mem_of_getElem? (i := 0) rfl) (fun w hw => hts w (List.mem_cons_of_mem _ (List.mem_append.mpr (Or.inl (List.mem_append.mpr (Or.inr hw)))))) (by decide +kernel) (by decide +kernel) hS (hl.1.trans hml.symm) dX4_offer_30 dX4_offer_33 dX4_offer_34 dX4_offer_36 dX4_offer_39 hnx (Nat.le_of_ble_eq_true rfl) (Nat.le_of_ble_eq_true rfl) (Nat.le_of_ble_eq_true rfl) (Nat.le_of_ble_eq_true rfl) hlocks (Nat.le_of_ble_eq_true rfl) (Nat.le_of_ble_eq_true rfl) hW (⟨1, 0, Or.inl ⟨fun z => h_13 z.2.1, rfl, rfl⟩, Or.inl ⟨rfl, rfl⟩⟩)
  · skip
    refine lv_astoreN (lv' := [(4, .null), (0, .ref (ad 0)), (1, .int a0), (2, .int a1), (3, .int a2)]) hx hb dX4_offer_5 hl (by decide) rfl (fun ls hl => ?_)
    refine lv_aloadN hx hb dX4_offer_7 (lv_at hl 0 rfl) ?_
    refine lv_ifnullN (tgt := 30) hx hb dX4_offer_9 (by decide) ?_
    exact ck_throw (cls := "java/lang/IllegalArgumentException") (text := "a parameter of the offer is out of range") hx hb hlt hown hKK0 (by decide +kernel) (by decide +kernel) (hts _ (List.mem_of_getElem? (i := 1) rfl)) (hts _ (List.mem_of_getElem? (i := 2) rfl)) (List.mem_of_getElem? (i := 12) rfl) (List.mem_of_getElem? (i := 0) rfl) (fun w hw => hts w (List.mem_cons_of_mem _ (List.mem_append.mpr (Or.inl (List.mem_append.mpr (Or.inr hw)))))) (by decide +kernel) (by decide +kernel) hS (hl.1.trans hml.symm) dX4_offer_30 dX4_offer_33 dX4_offer_34 dX4_offer_36 dX4_offer_39 hnx (Nat.le_of_ble_eq_true rfl) (Nat.le_of_ble_eq_true rfl) (Nat.le_of_ble_eq_true rfl) (Nat.le_of_ble_eq_true rfl) hlocks (Nat.le_of_ble_eq_true rfl) (Nat.le_of_ble_eq_true rfl) hW (⟨1, 0, Or.inl ⟨fun z => hno2 z.1, rfl, rfl⟩, Or.inl ⟨rfl, rfl⟩⟩)
