theorem ck_nltI {n m : Nat} (h : n = m) : ¬ nI n < nI m := by rw [h]; exact Int32.lt_irrefl
theorem ck_newf {f : Nat → Option Nat} {n m b : Nat} {ad : Nat → Nat} (h : ∀ k, k < m → f k = if k < n then some (ad (b + k)) else none) : ∀ k, k < m → va_up f n (some (ad (b + n))) k = if k < n + 1 then some (ad (b + k)) else none := fun k hk => by
  by_cases e : k = n
  · subst e; rw [va_up_self, if_pos (by omega)]
  · rw [va_up_ne _ _ e, h k hk]
    by_cases e2 : k < n
    · rw [if_pos e2, if_pos (by omega)]
    · rw [if_neg e2, if_neg (by omega)]
theorem ck_C.addRate {G : ck_G} {ad : Nat → Nat} {V : Nat → Nat → Int32} {L : Nat → Nat → Int64} {nc nr : Nat} {N N1 : Nat → Prop} {F F1 : Nat → va_E} (h : ck_C G ad V L nc nr N F) (hN : ∀ i, N i → N1 i) (hn : N1 (200 + nr)) (hlt : nr < 30) {a0 a1 a2 a3 a4 a5 : Int32} {f : Nat → Option Nat} (e0 : F1 0 = .inr (4, [.ref (ad 1), .ref (ad 2), .int (nI nc), .int (V 13 0), .ref (ad 3), .int (nI (nr + 1)), .int (V 13 1), .ref (ad 4)])) (e3 : F1 3 = .inl (G.2.1 4, 30, .inr (.inr (.inr (.inr f))))) (ef : ∀ k, k < 30 → f k = if k < nr + 1 then some (ad (200 + k)) else none) (eR : F1 (200 + nr) = .inr (2, [.int (nI nr), .int a0, .int a1, .int a2, .int a3, .int a4, .int a5])) (o : ∀ j, j ≠ 0 → j ≠ 3 → j ≠ 200 + nr → F1 j = F j) : ck_C G ad (ck_addR V nr a0 a1 a2 a3 a4 a5) L nc (nr + 1) N1 F1 := by
  have hc := h.nc
  have hV : ∀ i, (i < 7 ∨ 12 < i) → ck_addR V nr a0 a1 a2 a3 a4 a5 i = V i := fun i hi => by
    unfold ck_addR
    rw [va_up_ne _ _ (by omega), va_up_ne _ _ (by omega), va_up_ne _ _ (by omega), va_up_ne _ _ (by omega), va_up_ne _ _ (by omega), va_up_ne _ _ (by omega)]
  have hR : ∀ i q, q ≠ nr → ck_addR V nr a0 a1 a2 a3 a4 a5 i q = V i q := fun i q hq => by
    simp only [ck_addR, va_up, upd]
    repeat' split
    all_goals simp_all [upd]
  exact ⟨h.nc, hlt, e0, (by obtain ⟨f, e1, e2⟩ := h.f1; exact ⟨f, (o 1 (by omega) (by omega) (by omega)).trans e1, e2⟩), (by obtain ⟨f, e1, e2⟩ := h.f2; exact ⟨f, (o 2 (by omega) (by omega) (by omega)).trans e1, e2⟩), ⟨f, e3, ef⟩, (by obtain ⟨f, e1, e2⟩ := h.f4; exact ⟨f, (o 4 (by omega) (by omega) (by omega)).trans e1, e2⟩), (fun q hq => (o (5 + q) (by omega) (by omega) (by omega)).trans (by rw [hV 14 (by decide), hV 16 (by decide), hV 17 (by decide), hV 15 (by decide)]; exact h.src q hq)), (fun q hq => (o (8 + q) (by omega) (by omega) (by omega)).trans (h.del q hq)), (fun q hq => (o (11 + q) (by omega) (by omega) (by omega)).trans (h.car q hq)), (fun q hq => (o (15 + q) (by omega) (by omega) (by omega)).trans (by rw [hV (20 + q) (by omega)]; exact h.pre q hq)), (fun q hq => (o (19 + q) (by omega) (by omega) (by omega)).trans (by rw [hV (24 + q) (by omega)]; exact h.pri q hq)), (fun q hq => (o (100 + q) (by omega) (by omega) (by omega)).trans (by rw [hV 0 (by decide), hV 1 (by decide), hV 2 (by decide), hV 3 (by decide), hV 4 (by decide), hV 5 (by decide), hV 6 (by decide)]; exact h.call q hq)), (fun q hq => by
    by_cases e9 : q = nr
    · subst e9; exact eR.trans (by simp [ck_addR, va_up, upd])
    · exact (o (200 + q) (by omega) (by omega) (by omega)).trans (by rw [hR 7 q e9, hR 8 q e9, hR 9 q e9, hR 10 q e9, hR 11 q e9, hR 12 q e9]; exact h.rate q (by omega))), (fun i hi => hN i (h.n i hi)), (fun q hq => hN _ (h.ncall q hq)), (fun q hq => by
    by_cases e9 : q = nr
    · subst e9; exact hn
    · exact hN _ (h.nrate q (by omega)))⟩
theorem ck_C.addCall {G : ck_G} {ad : Nat → Nat} {V : Nat → Nat → Int32} {L : Nat → Nat → Int64} {nc nr : Nat} {N N1 : Nat → Prop} {F F1 : Nat → va_E} (h : ck_C G ad V L nc nr N F) (hN : ∀ i, N i → N1 i) (hn : N1 (100 + nc)) (hlt : nc < 60) (hfr : V 3 nc = 0 ∧ V 4 nc = 0 ∧ V 5 nc = -1 ∧ V 6 nc = 0) {a0 a1 a2 : Int32} {f : Nat → Option Nat} (e0 : F1 0 = .inr (4, [.ref (ad 1), .ref (ad 2), .int (nI (nc + 1)), .int (V 13 0), .ref (ad 3), .int (nI nr), .int (V 13 1), .ref (ad 4)])) (e2 : F1 2 = .inl (G.2.1 2, 60, .inr (.inr (.inr (.inr f))))) (ef : ∀ k, k < 60 → f k = if k < nc + 1 then some (ad (100 + k)) else none) (eR : F1 (100 + nc) = .inr (0, [.int (nI nc), .int a0, .int a1, .int a2, .int 0, .int 0, .int (-1), .int 0])) (o : ∀ j, j ≠ 0 → j ≠ 2 → j ≠ 100 + nc → F1 j = F j) : ck_C G ad (ck_new3 V nc a0 a1 a2) L (nc + 1) nr N1 F1 := by
  have hc := h.nr
  have hV : ∀ i, 2 < i → ck_new3 V nc a0 a1 a2 i = V i := fun i hi => by
    unfold ck_new3
    rw [va_up_ne _ _ (by omega), va_up_ne _ _ (by omega), va_up_ne _ _ (by omega)]
  have hR : ∀ i q, q ≠ nc → ck_new3 V nc a0 a1 a2 i q = V i q := fun i q hq => by
    simp only [ck_new3, va_up, upd]
    repeat' split
    all_goals simp_all [upd]
  exact ⟨hlt, h.nr, e0, (by obtain ⟨f, e1, e2⟩ := h.f1; exact ⟨f, (o 1 (by omega) (by omega) (by omega)).trans e1, e2⟩), ⟨f, e2, ef⟩, (by obtain ⟨f, e1, e2⟩ := h.f3; exact ⟨f, (o 3 (by omega) (by omega) (by omega)).trans e1, e2⟩), (by obtain ⟨f, e1, e2⟩ := h.f4; exact ⟨f, (o 4 (by omega) (by omega) (by omega)).trans e1, e2⟩), (fun q hq => (o (5 + q) (by omega) (by omega) (by omega)).trans (by rw [hV 14 (by decide), hV 16 (by decide), hV 17 (by decide), hV 15 (by decide)]; exact h.src q hq)), (fun q hq => (o (8 + q) (by omega) (by omega) (by omega)).trans (h.del q hq)), (fun q hq => (o (11 + q) (by omega) (by omega) (by omega)).trans (h.car q hq)), (fun q hq => (o (15 + q) (by omega) (by omega) (by omega)).trans (by rw [hV (20 + q) (by omega)]; exact h.pre q hq)), (fun q hq => (o (19 + q) (by omega) (by omega) (by omega)).trans (by rw [hV (24 + q) (by omega)]; exact h.pri q hq)), (fun q hq => by
    by_cases e9 : q = nc
    · subst e9; exact eR.trans (by simp [ck_new3, va_up, upd, hfr.1, hfr.2.1, hfr.2.2.1, hfr.2.2.2])
    · exact (o (100 + q) (by omega) (by omega) (by omega)).trans (by rw [hR 0 q e9, hR 1 q e9, hR 2 q e9, hR 3 q e9, hR 4 q e9, hR 5 q e9, hR 6 q e9]; exact h.call q (by omega))), (fun q hq => (o (200 + q) (by omega) (by omega) (by omega)).trans (by rw [hV 7 (by decide), hV 8 (by decide), hV 9 (by decide), hV 10 (by decide), hV 11 (by decide), hV 12 (by decide)]; exact h.rate q hq)), (fun i hi => hN i (h.n i hi)), (fun q hq => by
    by_cases e9 : q = nc
    · subst e9; exact hn
    · exact hN _ (h.ncall q (by omega))), (fun q hq => hN _ (h.nrate q hq))⟩
set_option maxHeartbeats 4000000 in
set_option maxRecDepth 100000 in
theorem ct_X4_addRate (l : Launch) (G : ck_G) (H : Heap) (ad : Nat → Nat) (N : Nat → Prop) (F : Nat → va_E) (hW : ck_W G ad N F H) (V : Nat → Nat → Int32) (L : Nat → Nat → Int64) (nc nr : Nat) (hC : ck_C G ad V L nc nr N F) (hlt : l.stackTraces = false) (a0 a1 a2 a3 a4 a5 : Int32) (hnw : ¬ N (200 + nr)) (haw : ad (200 + nr) = H.size) : vx_Met l yX4_addRate wsX4_addRate ({ frames := 6, cells := 1, slots := 7, locals := 90 }) (ck_P G H [.ref (ad 0), .int a0, .int a1, .int a2, .int a3, .int a4, .int a5]) (ck_Qi G (fun r H1 => ∃ V1 nr1 N1 F1, ck_Radd V nr a0 a1 a2 a3 a4 a5 0 r V1 nr1 ∧ (∀ i, N i → N1 i) ∧ (∀ i, N1 i → N i ∨ i = 200 + nr) ∧ ck_W G ad N1 F1 H1 ∧ ck_C G ad V1 L nc nr1 N1 F1 ∧ ck_sD F F1)) (ck_Xc G (fun E => ∃ k r, ck_Radd V nr a0 a1 a2 a3 a4 a5 k r V nr ∧ ck_ex2 ck_IAE ck_ISE k E) ad N F) 1 7 (ck_A G) := by
  refine vx_ofW (cc := cX4_addRate) (maxL := 8) (ret := (some .int)) (by decide) rfl ?_
  intro p e s m args below meth c s₁ B hml hnx hv
  obtain ⟨rfl, hH, hKK⟩ := hv
  subst hH
  have hx := B.exec
  have hb := B.bytes
  have hr := B.returns
  have hts := atoms_spec (ws := wsX4_addRate) B.pre
  have hown : s.vm.findClass RX4 = some m.cls := findClass_of_methodNamed B.named
  have hlocks := B.notSynchronized
  have hKK0 := hKK
  have hK := hKK.1.1
  have hS : va_S (ck_A G) s.heap s.heap [] := va_S.rf
  have hinX4 : ∀ w ∈ u_ws RX4 TX4 8, w ∈ wsX4_addRate := by decide +kernel
  have hinX2 : ∀ w ∈ u_ws RX2 TX2 7, w ∈ wsX4_addRate := by decide +kernel
  have hl := lv_entry ([.ref (ad 0), .int a0, .int a1, .int a2, .int a3, .int a4, .int a5]) (n := 8) (Nat.le_of_ble_eq_true rfl)
  rw [lg_entry_eq]
  generalize (lg_sl ([.ref (ad 0), .int a0, .int a1, .int a2, .int a3, .int a4, .int a5]) ++ List.replicate (8 - (lg_sl ([.ref (ad 0), .int a0, .int a1, .int a2, .int a3, .int a4, .int a5])).length) Slot.unset).toArray = ls at hl ⊢
  have hl : lv_has ls 8 [(0, .ref (ad 0)), (1, .int a0), (2, .int a1), (3, .int a2), (4, .int a3), (5, .int a4), (6, .int a5)] := hl
  have hSz : G.2.2.2 ≤ s.heap.size := hW.sz (hC.n 0 (by decide))
  obtain ⟨g3, hG3, hg3⟩ := hC.f3
  refine lv_iload_n hx hb dX4_addRate_0 rfl (lv_at hl 1 rfl) ?_
  refine ck_cSi (As := [.int a0]) (rest := []) ⟨hx, hb, hml, hown, hts⟩ hKK (ct_X4_isPrefix l G s.heap a0) (va_cwS 1 hts gX4_addRate_X4_isPrefix rfl rfl rfl (by decide +kernel) ⟨Nat.le_of_ble_eq_true rfl, Nat.le_of_ble_eq_true rfl⟩) rfl hl rfl (Nat.le_of_ble_eq_true rfl) dX4_addRate_1 ⟨Nat.le_of_ble_eq_true rfl, Nat.le_of_ble_eq_true rfl⟩ (fun r_1 h_1 => ?_)
  rcases h_1 with ⟨h_1, rfl⟩ | ⟨h_1, rfl⟩
  · skip
    refine lv_if_eq (tgt := 59) hx hb dX4_addRate_4 (by decide) (fun c_4 => absurd c_4 (by decide)) (fun _ => ?_)
    refine lv_iload_n hx hb dX4_addRate_7 rfl (lv_at hl 2 rfl) ?_
    refine ck_cSi (As := [.int a1]) (rest := []) ⟨hx, hb, hml, hown, hts⟩ hKK (ct_X4_isDay l G s.heap a1) (va_cwS 1 hts gX4_addRate_X4_isDay rfl rfl rfl (by decide +kernel) ⟨Nat.le_of_ble_eq_true rfl, Nat.le_of_ble_eq_true rfl⟩) rfl hl rfl (Nat.le_of_ble_eq_true rfl) dX4_addRate_8 ⟨Nat.le_of_ble_eq_true rfl, Nat.le_of_ble_eq_true rfl⟩ (fun r_8 h_8 => ?_)
    rcases h_8 with ⟨h_8, rfl⟩ | ⟨h_8, rfl⟩
    · skip
      refine lv_if_eq (tgt := 59) hx hb dX4_addRate_11 (by decide) (fun c_11 => absurd c_11 (by decide)) (fun _ => ?_)
      refine lv_iload_n hx hb dX4_addRate_14 rfl (lv_at hl 3 rfl) ?_
      refine lv_iconst (v := 0) hx hb dX4_addRate_15 (by decide) ?_
      refine lv_sipush (v := 10000) hx hb dX4_addRate_16 (by decide) ?_
      refine ck_cSi (As := [.int a2, .int 0, .int 10000]) (rest := []) ⟨hx, hb, hml, hown, hts⟩ hKK (ct_X4_within l G s.heap a2 0 10000) (va_cwS 3 hts gX4_addRate_X4_within rfl rfl rfl (by decide +kernel) ⟨Nat.le_of_ble_eq_true rfl, Nat.le_of_ble_eq_true rfl⟩) rfl hl rfl (Nat.le_of_ble_eq_true rfl) dX4_addRate_19 ⟨Nat.le_of_ble_eq_true rfl, Nat.le_of_ble_eq_true rfl⟩ (fun r_19 h_19 => ?_)
      rcases h_19 with ⟨h_19, rfl⟩ | ⟨h_19, rfl⟩
      · skip
        refine lv_if_eq (tgt := 59) hx hb dX4_addRate_22 (by decide) (fun c_22 => absurd c_22 (by decide)) (fun _ => ?_)
        refine lv_iload hx hb dX4_addRate_25 (lv_at hl 4 rfl) ?_
        refine lv_iconst (v := 1) hx hb dX4_addRate_27 (by decide) ?_
        refine lv_bipush (v := 60) hx hb dX4_addRate_28 (by decide) ?_
        refine ck_cSi (As := [.int a3, .int 1, .int 60]) (rest := []) ⟨hx, hb, hml, hown, hts⟩ hKK (ct_X4_within l G s.heap a3 1 60) (va_cwS 3 hts gX4_addRate_X4_within rfl rfl rfl (by decide +kernel) ⟨Nat.le_of_ble_eq_true rfl, Nat.le_of_ble_eq_true rfl⟩) rfl hl rfl (Nat.le_of_ble_eq_true rfl) dX4_addRate_30 ⟨Nat.le_of_ble_eq_true rfl, Nat.le_of_ble_eq_true rfl⟩ (fun r_30 h_30 => ?_)
        rcases h_30 with ⟨h_30, rfl⟩ | ⟨h_30, rfl⟩
        · skip
          refine lv_if_eq (tgt := 59) hx hb dX4_addRate_33 (by decide) (fun c_33 => absurd c_33 (by decide)) (fun _ => ?_)
          refine lv_iload hx hb dX4_addRate_36 (lv_at hl 5 rfl) ?_
          refine lv_iconst (v := 0) hx hb dX4_addRate_38 (by decide) ?_
          refine lv_bipush (v := 120) hx hb dX4_addRate_39 (by decide) ?_
          refine ck_cSi (As := [.int a4, .int 0, .int 120]) (rest := []) ⟨hx, hb, hml, hown, hts⟩ hKK (ct_X4_within l G s.heap a4 0 120) (va_cwS 3 hts gX4_addRate_X4_within rfl rfl rfl (by decide +kernel) ⟨Nat.le_of_ble_eq_true rfl, Nat.le_of_ble_eq_true rfl⟩) rfl hl rfl (Nat.le_of_ble_eq_true rfl) dX4_addRate_41 ⟨Nat.le_of_ble_eq_true rfl, Nat.le_of_ble_eq_true rfl⟩ (fun r_41 h_41 => ?_)
          rcases h_41 with ⟨h_41, rfl⟩ | ⟨h_41, rfl⟩
          · skip
            refine lv_if_eq (tgt := 59) hx hb dX4_addRate_44 (by decide) (fun c_44 => absurd c_44 (by decide)) (fun _ => ?_)
            refine lv_iload hx hb dX4_addRate_47 (lv_at hl 6 rfl) ?_
            refine lv_iconst (v := 0) hx hb dX4_addRate_49 (by decide) ?_
            refine lv_sipush (v := 1000) hx hb dX4_addRate_50 (by decide) ?_
            refine ck_cSi (As := [.int a5, .int 0, .int 1000]) (rest := []) ⟨hx, hb, hml, hown, hts⟩ hKK (ct_X4_within l G s.heap a5 0 1000) (va_cwS 3 hts gX4_addRate_X4_within rfl rfl rfl (by decide +kernel) ⟨Nat.le_of_ble_eq_true rfl, Nat.le_of_ble_eq_true rfl⟩) rfl hl rfl (Nat.le_of_ble_eq_true rfl) dX4_addRate_53 ⟨Nat.le_of_ble_eq_true rfl, Nat.le_of_ble_eq_true rfl⟩ (fun r_53 h_53 => ?_)
            rcases h_53 with ⟨h_53, rfl⟩ | ⟨h_53, rfl⟩
            · skip
              refine lv_if_ne (tgt := 69) hx hb dX4_addRate_56 (by decide) (fun _ => ?_) (fun c_56 => absurd c_56 (by decide))
              refine lv_aload_n hx hb dX4_addRate_69 rfl (lv_at hl 0 rfl) ?_
              refine ck_get (v := .int (nI nr)) hx hb hts hinX4 hown hK hW (hC.n 0 (by decide)) hC.f0 rfl 5 (by decide) (hts _ (List.mem_of_getElem? (i := 5) rfl)) rfl rfl dX4_addRate_70 ?_
              refine lv_istore (lv' := [(7, .int (nI nr)), (0, .ref (ad 0)), (1, .int a0), (2, .int a1), (3, .int a2), (4, .int a3), (5, .int a4), (6, .int a5)]) hx hb dX4_addRate_73 hl (by decide) rfl (fun ls hl => ?_)
              by_cases hln : nr < 30
              · skip
                refine lv_iload hx hb dX4_addRate_75 (lv_at hl 0 rfl) ?_
                refine lv_aload_n hx hb dX4_addRate_77 rfl (lv_at hl 1 rfl) ?_
                refine ck_get (v := .ref (ad 3)) hx hb hts hinX4 hown hK hW (hC.n 0 (by decide)) hC.f0 rfl 4 (by decide) (hts _ (List.mem_of_getElem? (i := 6) rfl)) rfl rfl dX4_addRate_78 ?_
                refine ck_alen (v := 30) hx hb hK hW (hC.n 3 (by decide)) hG3 4 rfl rfl dX4_addRate_81 ?_
                refine lv_icmp_lt (tgt := 95) hx hb dX4_addRate_82 (by decide) (fun _ => ?_) (fun c_82 => absurd (nI_lt hln (by decide)) c_82)
                refine lv_aload_n hx hb dX4_addRate_95 rfl (lv_at hl 1 rfl) ?_
                refine ck_get (v := .ref (ad 3)) hx hb hts hinX4 hown hK hW (hC.n 0 (by decide)) hC.f0 rfl 4 (by decide) (hts _ (List.mem_of_getElem? (i := 6) rfl)) rfl rfl dX4_addRate_96 ?_
                refine lv_iload hx hb dX4_addRate_99 (lv_at hl 0 rfl) ?_
                refine ck_newO (ci := 2) hx hb hts hinX2 tyX2 tyX2_ok hown (hts _ (List.mem_of_getElem? (i := 7) rfl)) (hts _ (List.mem_of_getElem? (i := 8) rfl)) (hts _ (List.mem_of_getElem? (i := 9) rfl)) hK hW hS hSz (200 + nr) (hnw) (haw) rfl [.int 0, .int 0, .int 0, .int 0, .int 0, .int 0, .int 0] (fun j hj => by rcases (show j = 0 ∨ j = 1 ∨ j = 2 ∨ j = 3 ∨ j = 4 ∨ j = 5 ∨ j = 6 by omega) with rfl | rfl | rfl | rfl | rfl | rfl | rfl <;> rfl) (Nat.le_of_ble_eq_true rfl) (Nat.le_of_ble_eq_true rfl) dX4_addRate_101 (fun N_101 F_101 H hNw101 hS hz101 => ?_)
                obtain ⟨hNs101, hNo101, hNi101, hFe101, hFo101, hW⟩ := hNw101
                have hFD_101 := (hFo101 0 (by omega)).trans hC.f0
                have hND_101 := hNs101 _ (hC.n 0 (by decide))
                have hFA3_101 := (hFo101 3 (by omega)).trans hG3
                have hNA3_101 := hNs101 _ (hC.n 3 (by decide))
                have hSz : G.2.2.2 ≤ H.size := by omega
                have hKK := hKK0.keep hS.2.1
                refine lv_dup hx hb dX4_addRate_104 rfl ?_
                refine lv_iload hx hb dX4_addRate_105 (lv_at hl 0 rfl) ?_
                refine lv_iload_n hx hb dX4_addRate_107 rfl (lv_at hl 2 rfl) ?_
                refine lv_iload_n hx hb dX4_addRate_108 rfl (lv_at hl 3 rfl) ?_
                refine lv_iload_n hx hb dX4_addRate_109 rfl (lv_at hl 4 rfl) ?_
                refine lv_iload hx hb dX4_addRate_110 (lv_at hl 5 rfl) ?_
                refine lv_iload hx hb dX4_addRate_112 (lv_at hl 6 rfl) ?_
                refine lv_iload hx hb dX4_addRate_114 (lv_at hl 7 rfl) ?_
                refine ck_cIn (As := [.int (nI nr), .int a0, .int a1, .int a2, .int a3, .int a4, .int a5]) (rest := [.ref (ad (200 + nr)), .int (nI nr), .ref (ad 3)]) ⟨hx, hb, hml, hown, hts⟩ hKK (ct_X2_init l G H ad N_101 F_101 hW (200 + nr) hNi101 hFe101 ((nI nr)) a0 a1 a2 a3 a4 a5) (cwI 7 hts gX4_addRate_X2_init rfl rfl rfl (hts _ (List.mem_of_getElem? (i := 9) rfl)) (hts _ (List.mem_of_getElem? (i := 21) rfl)) (hts _ (List.mem_of_getElem? (i := 22) rfl)) rfl (by decide +kernel) ⟨Nat.le_of_ble_eq_true rfl, Nat.le_of_ble_eq_true rfl⟩) rfl hl rfl (Nat.le_of_ble_eq_true rfl) dX4_addRate_116 ⟨Nat.le_of_ble_eq_true rfl, Nat.le_of_ble_eq_true rfl⟩ hS (fun H locs h_116 hz_116 hS => ?_)
                have hKK := hKK0.keep hS.2.1
                obtain ⟨F_116, hFe116, hFo116, hW, hsz116⟩ := h_116
                have hFD_116 := (hFo116 0 (by omega)).trans hFD_101
                have hFA3_116 := (hFo116 3 (by omega)).trans hFA3_101
                have hSz : G.2.2.2 ≤ H.size := by omega
                refine ck_aast (r := (RX2, TX2, 7)) hx hb hK hW hS hNA3_101 hFA3_116 4 rfl nr (rfl) (by omega) (by decide) hNi101 hFe116 rfl dX4_addRate_119 (fun H locs hW hS hz119 => ?_)
                obtain ⟨F_119, hFe119, hFo119, hW⟩ := ck_name hW
                have hSz : G.2.2.2 ≤ H.size := by omega
                have hFD_119 := (hFo119 0 (by omega)).trans hFD_116
                have hFnw_119 := (hFo119 (200 + nr) (by omega)).trans hFe116
                have hKK := hKK0.keep hS.2.1
                refine lv_aload_n hx hb dX4_addRate_120 rfl (lv_at hl 1 rfl) ?_
                refine lv_dup hx hb dX4_addRate_121 rfl ?_
                refine ck_get (v := .int (nI nr)) hx hb hts hinX4 hown hK hW hND_101 hFD_119 rfl 5 (by decide) (hts _ (List.mem_of_getElem? (i := 5) rfl)) rfl rfl dX4_addRate_122 ?_
                refine lv_iconst (v := 1) hx hb dX4_addRate_125 (by decide) ?_
                refine lv_iadd hx hb dX4_addRate_126 ?_
                refine lv_topi (fun y9 ey9 => ?_)
                have ey8 : y9 = nI (nr + 1) := ey9.trans (nI_1 nr)
                subst ey8
                refine ck_put (v := .int (nI (nr + 1))) (ty := .int) hx hb hts hinX4 tyX4 tyX4_ok nmX4 hown hK hW hS hND_101 hFD_119 rfl 5 (by decide) (hts _ (List.mem_of_getElem? (i := 5) rfl)) rfl rfl (by decide +kernel) rfl rfl (Nat.le_of_ble_eq_true rfl) dX4_addRate_127 (fun H locs hW hS hz127 => ?_)
                obtain ⟨F_127, hFe127, hFo127, hW⟩ := ck_name hW
                have hSz : G.2.2.2 ≤ H.size := by omega
                have hFA3_127 := (hFo127 3 (by omega)).trans hFe119
                have hFnw_127 := (hFo127 (200 + nr) (by omega)).trans hFnw_119
                have hKK := hKK0.keep hS.2.1
                refine lv_iload hx hb dX4_addRate_130 (lv_at hl 0 rfl) ?_
                exact vx_ret (W.iret (v := (nI nr)) hx hb hr (fun t ht hW9 => ⟨⟨_, rfl, by rw [ht]; exact ⟨_, _, N_101, F_127, Or.inr (Or.inr ⟨⟨h_1, h_8, h_19, h_30, h_41, h_53⟩, hln, rfl, rfl, rfl, rfl⟩), hNs101, hNo101, hW, hC.addRate hNs101 hNi101 hln hFe127 hFA3_127 (ck_newf hg3) hFnw_127 (fun j h1 h2 h3 => (hFo127 j h1).trans ((hFo119 j h2).trans ((hFo116 j h3).trans (hFo101 j h3)))), fun j h1 h2 => (hFo127 j (by omega)).trans ((hFo119 j (by omega)).trans ((hFo116 j (by omega)).trans (hFo101 j (by omega))))⟩⟩, hS.F ht⟩) hS.2.2 dX4_addRate_132)
              · skip
                refine lv_iload hx hb dX4_addRate_75 (lv_at hl 0 rfl) ?_
                refine lv_aload_n hx hb dX4_addRate_77 rfl (lv_at hl 1 rfl) ?_
                refine ck_get (v := .ref (ad 3)) hx hb hts hinX4 hown hK hW (hC.n 0 (by decide)) hC.f0 rfl 4 (by decide) (hts _ (List.mem_of_getElem? (i := 6) rfl)) rfl rfl dX4_addRate_78 ?_
                refine ck_alen (v := 30) hx hb hK hW (hC.n 3 (by decide)) hG3 4 rfl rfl dX4_addRate_81 ?_
                refine lv_icmp_lt (tgt := 95) hx hb dX4_addRate_82 (by decide) (fun c_82 => absurd c_82 (ck_nltI (n := nr) (m := 30) (by have := hC.nr; omega))) (fun _ => ?_)
                exact ck_throw (cls := "java/lang/IllegalStateException") (text := "30 rates were added") hx hb hlt hown hKK0 (by decide +kernel) (by decide +kernel) (hts _ (List.mem_of_getElem? (i := 3) rfl)) (hts _ (List.mem_of_getElem? (i := 4) rfl)) (List.mem_of_getElem? (i := 6) rfl) (List.mem_of_getElem? (i := 1) rfl) (fun w hw => hts w (List.mem_cons_of_mem _ (List.mem_append.mpr (Or.inr hw)))) (by decide +kernel) (by decide +kernel) hS (hl.1.trans hml.symm) dX4_addRate_85 dX4_addRate_88 dX4_addRate_89 dX4_addRate_91 dX4_addRate_94 hnx (Nat.le_of_ble_eq_true rfl) (Nat.le_of_ble_eq_true rfl) (Nat.le_of_ble_eq_true rfl) (Nat.le_of_ble_eq_true rfl) hlocks (Nat.le_of_ble_eq_true rfl) (Nat.le_of_ble_eq_true rfl) hW (⟨2, 0, Or.inr (Or.inl ⟨⟨h_1, h_8, h_19, h_30, h_41, h_53⟩, by have := hC.nr; omega, rfl, rfl, rfl⟩), Or.inr ⟨rfl, rfl⟩⟩)
            · skip
              refine lv_if_ne (tgt := 69) hx hb dX4_addRate_56 (by decide) (fun c_56 => absurd (by decide) c_56) (fun _ => ?_)
              exact ck_throw (cls := "java/lang/IllegalArgumentException") (text := "a parameter of the rate is out of range") hx hb hlt hown hKK0 (by decide +kernel) (by decide +kernel) (hts _ (List.mem_of_getElem? (i := 1) rfl)) (hts _ (List.mem_of_getElem? (i := 2) rfl)) (List.mem_of_getElem? (i := 5) rfl) (List.mem_of_getElem? (i := 0) rfl) (fun w hw => hts w (List.mem_cons_of_mem _ (List.mem_append.mpr (Or.inl (List.mem_append.mpr (Or.inr hw)))))) (by decide +kernel) (by decide +kernel) hS (hl.1.trans hml.symm) dX4_addRate_59 dX4_addRate_62 dX4_addRate_63 dX4_addRate_65 dX4_addRate_68 hnx (Nat.le_of_ble_eq_true rfl) (Nat.le_of_ble_eq_true rfl) (Nat.le_of_ble_eq_true rfl) (Nat.le_of_ble_eq_true rfl) hlocks (Nat.le_of_ble_eq_true rfl) (Nat.le_of_ble_eq_true rfl) hW (⟨1, 0, Or.inl ⟨fun z => h_53 z.2.2.2.2.2, rfl, rfl, rfl⟩, Or.inl ⟨rfl, rfl⟩⟩)
          · skip
            refine lv_if_eq (tgt := 59) hx hb dX4_addRate_44 (by decide) (fun _ => ?_) (fun c_44 => absurd (by decide) c_44)
            exact ck_throw (cls := "java/lang/IllegalArgumentException") (text := "a parameter of the rate is out of range") hx hb hlt hown hKK0 (by decide +kernel) (by decide +kernel) (hts _ (List.mem_of_getElem? (i := 1) rfl)) (hts _ (List.mem_of_getElem? (i := 2) rfl)) (List.mem_of_getElem? (i := 5) rfl) (List.mem_of_getElem? (i := 0) rfl) (fun w hw => hts w (List.mem_cons_of_mem _ (List.mem_append.mpr (Or.inl (List.mem_append.mpr (Or.inr hw)))))) (by decide +kernel) (by decide +kernel) hS (hl.1.trans hml.symm) dX4_addRate_59 dX4_addRate_62 dX4_addRate_63 dX4_addRate_65 dX4_addRate_68 hnx (Nat.le_of_ble_eq_true rfl) (Nat.le_of_ble_eq_true rfl) (Nat.le_of_ble_eq_true rfl) (Nat.le_of_ble_eq_true rfl) hlocks (Nat.le_of_ble_eq_true rfl) (Nat.le_of_ble_eq_true rfl) hW (⟨1, 0, Or.inl ⟨fun z => h_41 z.2.2.2.2.1, rfl, rfl, rfl⟩, Or.inl ⟨rfl, rfl⟩⟩)
        · skip
          refine lv_if_eq (tgt := 59) hx hb dX4_addRate_33 (by decide) (fun _ => ?_) (fun c_33 => absurd (by decide) c_33)
          exact ck_throw (cls := "java/lang/IllegalArgumentException") (text := "a parameter of the rate is out of range") hx hb hlt hown hKK0 (by decide +kernel) (by decide +kernel) (hts _ (List.mem_of_getElem? (i := 1) rfl)) (hts _ (List.mem_of_getElem? (i := 2) rfl)) (List.mem_of_getElem? (i := 5) rfl) (List.mem_of_getElem? (i := 0) rfl) (fun w hw => hts w (List.mem_cons_of_mem _ (List.mem_append.mpr (Or.inl (List.mem_append.mpr (Or.inr hw)))))) (by decide +kernel) (by decide +kernel) hS (hl.1.trans hml.symm) dX4_addRate_59 dX4_addRate_62 dX4_addRate_63 dX4_addRate_65 dX4_addRate_68 hnx (Nat.le_of_ble_eq_true rfl) (Nat.le_of_ble_eq_true rfl) (Nat.le_of_ble_eq_true rfl) (Nat.le_of_ble_eq_true rfl) hlocks (Nat.le_of_ble_eq_true rfl) (Nat.le_of_ble_eq_true rfl) hW (⟨1, 0, Or.inl ⟨fun z => h_30 z.2.2.2.1, rfl, rfl, rfl⟩, Or.inl ⟨rfl, rfl⟩⟩)
      · skip
        refine lv_if_eq (tgt := 59) hx hb dX4_addRate_22 (by decide) (fun _ => ?_) (fun c_22 => absurd (by decide) c_22)
        exact ck_throw (cls := "java/lang/IllegalArgumentException") (text := "a parameter of the rate is out of range") hx hb hlt hown hKK0 (by decide +kernel) (by decide +kernel) (hts _ (List.mem_of_getElem? (i := 1) rfl)) (hts _ (List.mem_of_getElem? (i := 2) rfl)) (List.mem_of_getElem? (i := 5) rfl) (List.mem_of_getElem? (i := 0) rfl) (fun w hw => hts w (List.mem_cons_of_mem _ (List.mem_append.mpr (Or.inl (List.mem_append.mpr (Or.inr hw)))))) (by decide +kernel) (by decide +kernel) hS (hl.1.trans hml.symm) dX4_addRate_59 dX4_addRate_62 dX4_addRate_63 dX4_addRate_65 dX4_addRate_68 hnx (Nat.le_of_ble_eq_true rfl) (Nat.le_of_ble_eq_true rfl) (Nat.le_of_ble_eq_true rfl) (Nat.le_of_ble_eq_true rfl) hlocks (Nat.le_of_ble_eq_true rfl) (Nat.le_of_ble_eq_true rfl) hW (⟨1, 0, Or.inl ⟨fun z => h_19 z.2.2.1, rfl, rfl, rfl⟩, Or.inl ⟨rfl, rfl⟩⟩)
    · skip
      refine lv_if_eq (tgt := 59) hx hb dX4_addRate_11 (by decide) (fun _ => ?_) (fun c_11 => absurd (by decide) c_11)
      exact ck_throw (cls := "java/lang/IllegalArgumentException") (text := "a parameter of the rate is out of range") hx hb hlt hown hKK0 (by decide +kernel) (by decide +kernel) (hts _ (List.mem_of_getElem? (i := 1) rfl)) (hts _ (List.mem_of_getElem? (i := 2) rfl)) (List.mem_of_getElem? (i := 5) rfl) (List.mem_of_getElem? (i := 0) rfl) (fun w hw => hts w (List.mem_cons_of_mem _ (List.mem_append.mpr (Or.inl (List.mem_append.mpr (Or.inr hw)))))) (by decide +kernel) (by decide +kernel) hS (hl.1.trans hml.symm) dX4_addRate_59 dX4_addRate_62 dX4_addRate_63 dX4_addRate_65 dX4_addRate_68 hnx (Nat.le_of_ble_eq_true rfl) (Nat.le_of_ble_eq_true rfl) (Nat.le_of_ble_eq_true rfl) (Nat.le_of_ble_eq_true rfl) hlocks (Nat.le_of_ble_eq_true rfl) (Nat.le_of_ble_eq_true rfl) hW (⟨1, 0, Or.inl ⟨fun z => h_8 z.2.1, rfl, rfl, rfl⟩, Or.inl ⟨rfl, rfl⟩⟩)
  · skip
    refine lv_if_eq (tgt := 59) hx hb dX4_addRate_4 (by decide) (fun _ => ?_) (fun c_4 => absurd (by decide) c_4)
    exact ck_throw (cls := "java/lang/IllegalArgumentException") (text := "a parameter of the rate is out of range") hx hb hlt hown hKK0 (by decide +kernel) (by decide +kernel) (hts _ (List.mem_of_getElem? (i := 1) rfl)) (hts _ (List.mem_of_getElem? (i := 2) rfl)) (List.mem_of_getElem? (i := 5) rfl) (List.mem_of_getElem? (i := 0) rfl) (fun w hw => hts w (List.mem_cons_of_mem _ (List.mem_append.mpr (Or.inl (List.mem_append.mpr (Or.inr hw)))))) (by decide +kernel) (by decide +kernel) hS (hl.1.trans hml.symm) dX4_addRate_59 dX4_addRate_62 dX4_addRate_63 dX4_addRate_65 dX4_addRate_68 hnx (Nat.le_of_ble_eq_true rfl) (Nat.le_of_ble_eq_true rfl) (Nat.le_of_ble_eq_true rfl) (Nat.le_of_ble_eq_true rfl) hlocks (Nat.le_of_ble_eq_true rfl) (Nat.le_of_ble_eq_true rfl) hW (⟨1, 0, Or.inl ⟨fun z => h_1 z.1, rfl, rfl, rfl⟩, Or.inl ⟨rfl, rfl⟩⟩)
set_option maxHeartbeats 4000000 in
set_option maxRecDepth 100000 in
theorem ct_X4_newCall (l : Launch) (G : ck_G) (H : Heap) (ad : Nat → Nat) (N : Nat → Prop) (F : Nat → va_E) (hW : ck_W G ad N F H) (V : Nat → Nat → Int32) (L : Nat → Nat → Int64) (nc nr : Nat) (hC : ck_C G ad V L nc nr N F) (a0 a1 a2 : Int32) (hfr : nc < 60 → V 3 nc = 0 ∧ V 4 nc = 0 ∧ V 5 nc = -1 ∧ V 6 nc = 0) (hnw : ¬ N (100 + nc)) (haw : ad (100 + nc) = H.size) : Met l yX4_newCall wsX4_newCall ({ frames := 2, cells := 1, slots := 8, locals := 44 }) (ck_P G H [.ref (ad 0), .int a0, .int a1, .int a2]) (ck_Qr G (fun r H1 => (nc < 60 ∧ r = some (ad (100 + nc)) ∧ ∃ N1 F1, (∀ i, N i → N1 i) ∧ (∀ i, N1 i → N i ∨ i = 100 + nc) ∧ ck_W G ad N1 F1 H1 ∧ ck_C G ad (ck_new3 V nc a0 a1 a2) L (nc + 1) nr N1 F1 ∧ ck_sD F F1) ∨ (nc = 60 ∧ r = none ∧ ck_W G ad N F H1))) 1 8 (ck_A G) := by
  refine Met.ofW (cc := cX4_newCall) (maxL := 6) (ret := (some (.object "CarrierDesk$Call"))) (by decide) rfl ?_
  intro p e s m args below meth c s₁ B hml hv
  obtain ⟨rfl, hH, hKK⟩ := hv
  subst hH
  have hx := B.exec
  have hb := B.bytes
  have hr := B.returns
  have hts := atoms_spec (ws := wsX4_newCall) B.pre
  have hown : s.vm.findClass RX4 = some m.cls := findClass_of_methodNamed B.named
  have hlocks := B.notSynchronized
  have hKK0 := hKK
  have hK := hKK.1.1
  have hS : va_S (ck_A G) s.heap s.heap [] := va_S.rf
  have hinX4 : ∀ w ∈ u_ws RX4 TX4 8, w ∈ wsX4_newCall := by decide +kernel
  have hinX0 : ∀ w ∈ u_ws RX0 TX0 8, w ∈ wsX4_newCall := by decide +kernel
  have hl := lv_entry ([.ref (ad 0), .int a0, .int a1, .int a2]) (n := 6) (Nat.le_of_ble_eq_true rfl)
  rw [lg_entry_eq]
  generalize (lg_sl ([.ref (ad 0), .int a0, .int a1, .int a2]) ++ List.replicate (6 - (lg_sl ([.ref (ad 0), .int a0, .int a1, .int a2])).length) Slot.unset).toArray = ls at hl ⊢
  have hl : lv_has ls 6 [(0, .ref (ad 0)), (1, .int a0), (2, .int a1), (3, .int a2)] := hl
  have hSz : G.2.2.2 ≤ s.heap.size := hW.sz (hC.n 0 (by decide))
  obtain ⟨g2, hG2, hg2⟩ := hC.f2
  refine lv_aload_n hx hb dX4_newCall_0 rfl (lv_at hl 0 rfl) ?_
  refine ck_get (v := .int (nI nc)) hx hb hts hinX4 hown hK hW (hC.n 0 (by decide)) hC.f0 rfl 2 (by decide) (hts _ (List.mem_of_getElem? (i := 1) rfl)) rfl rfl dX4_newCall_1 ?_
  refine lv_istore (lv' := [(4, .int (nI nc)), (0, .ref (ad 0)), (1, .int a0), (2, .int a1), (3, .int a2)]) hx hb dX4_newCall_4 hl (by decide) rfl (fun ls hl => ?_)
  by_cases hln : nc < 60
  · skip
    refine lv_iload hx hb dX4_newCall_6 (lv_at hl 0 rfl) ?_
    refine lv_aload_n hx hb dX4_newCall_8 rfl (lv_at hl 1 rfl) ?_
    refine ck_get (v := .ref (ad 2)) hx hb hts hinX4 hown hK hW (hC.n 0 (by decide)) hC.f0 rfl 1 (by decide) (hts _ (List.mem_of_getElem? (i := 2) rfl)) rfl rfl dX4_newCall_9 ?_
    refine ck_alen (v := 60) hx hb hK hW (hC.n 2 (by decide)) hG2 2 rfl rfl dX4_newCall_12 ?_
    refine lv_icmp_lt (tgt := 18) hx hb dX4_newCall_13 (by decide) (fun _ => ?_) (fun c_13 => absurd (nI_lt hln (by decide)) c_13)
    refine ck_newO (ci := 0) hx hb hts hinX0 tyX0 tyX0_ok hown (hts _ (List.mem_of_getElem? (i := 3) rfl)) (hts _ (List.mem_of_getElem? (i := 4) rfl)) (hts _ (List.mem_of_getElem? (i := 5) rfl)) hK hW hS hSz (100 + nc) (hnw) (haw) rfl [.int 0, .int 0, .int 0, .int 0, .int 0, .int 0, .int 0, .int 0] (fun j hj => by rcases (show j = 0 ∨ j = 1 ∨ j = 2 ∨ j = 3 ∨ j = 4 ∨ j = 5 ∨ j = 6 ∨ j = 7 by omega) with rfl | rfl | rfl | rfl | rfl | rfl | rfl | rfl <;> rfl) (Nat.le_of_ble_eq_true rfl) (Nat.le_of_ble_eq_true rfl) dX4_newCall_18 (fun N_18 F_18 H hNw18 hS hz18 => ?_)
    obtain ⟨hNs18, hNo18, hNi18, hFe18, hFo18, hW⟩ := hNw18
    have hFD_18 := (hFo18 0 (by omega)).trans hC.f0
    have hND_18 := hNs18 _ (hC.n 0 (by decide))
    have hFA2_18 := (hFo18 2 (by omega)).trans hG2
    have hNA2_18 := hNs18 _ (hC.n 2 (by decide))
    have hSz : G.2.2.2 ≤ H.size := by omega
    have hKK := hKK0.keep hS.2.1
    refine lv_dup hx hb dX4_newCall_21 rfl ?_
    refine lv_iload hx hb dX4_newCall_22 (lv_at hl 0 rfl) ?_
    refine lv_iload_n hx hb dX4_newCall_24 rfl (lv_at hl 2 rfl) ?_
    refine lv_iload_n hx hb dX4_newCall_25 rfl (lv_at hl 3 rfl) ?_
    refine lv_iload_n hx hb dX4_newCall_26 rfl (lv_at hl 4 rfl) ?_
    refine ck_cIn (As := [.int (nI nc), .int a0, .int a1, .int a2]) (rest := [.ref (ad (100 + nc))]) ⟨hx, hb, hml, hown, hts⟩ hKK (ct_X0_init l G H ad N_18 F_18 hW (100 + nc) hNi18 hFe18 ((nI nc)) a0 a1 a2) (cwI 4 hts gX4_newCall_X0_init rfl rfl rfl (hts _ (List.mem_of_getElem? (i := 5) rfl)) (hts _ (List.mem_of_getElem? (i := 6) rfl)) (hts _ (List.mem_of_getElem? (i := 7) rfl)) rfl (by decide +kernel) ⟨Nat.le_of_ble_eq_true rfl, Nat.le_of_ble_eq_true rfl⟩) rfl hl rfl (Nat.le_of_ble_eq_true rfl) dX4_newCall_27 ⟨Nat.le_of_ble_eq_true rfl, Nat.le_of_ble_eq_true rfl⟩ hS (fun H locs h_27 hz_27 hS => ?_)
    have hKK := hKK0.keep hS.2.1
    obtain ⟨F_27, hFe27, hFo27, hW, hsz27⟩ := h_27
    have hFD_27 := (hFo27 0 (by omega)).trans hFD_18
    have hFA2_27 := (hFo27 2 (by omega)).trans hFA2_18
    have hSz : G.2.2.2 ≤ H.size := by omega
    refine lv_astore (lv' := [(5, .ref (ad (100 + nc))), (4, .int (nI nc)), (0, .ref (ad 0)), (1, .int a0), (2, .int a1), (3, .int a2)]) hx hb dX4_newCall_30 hl (by decide) rfl (fun ls hl => ?_)
    refine lv_aload_n hx hb dX4_newCall_32 rfl (lv_at hl 2 rfl) ?_
    refine ck_get (v := .ref (ad 2)) hx hb hts hinX4 hown hK hW hND_18 hFD_27 rfl 1 (by decide) (hts _ (List.mem_of_getElem? (i := 2) rfl)) rfl rfl dX4_newCall_33 ?_
    refine lv_iload hx hb dX4_newCall_36 (lv_at hl 1 rfl) ?_
    refine lv_aload hx hb dX4_newCall_38 (lv_at hl 0 rfl) ?_
    refine ck_aast (r := (RX0, TX0, 8)) hx hb hK hW hS hNA2_18 hFA2_27 2 rfl nc (rfl) (by omega) (by decide) hNi18 hFe27 rfl dX4_newCall_40 (fun H locs hW hS hz40 => ?_)
    obtain ⟨F_40, hFe40, hFo40, hW⟩ := ck_name hW
    have hSz : G.2.2.2 ≤ H.size := by omega
    have hFD_40 := (hFo40 0 (by omega)).trans hFD_27
    have hFnw_40 := (hFo40 (100 + nc) (by omega)).trans hFe27
    have hKK := hKK0.keep hS.2.1
    refine lv_aload_n hx hb dX4_newCall_41 rfl (lv_at hl 2 rfl) ?_
    refine lv_dup hx hb dX4_newCall_42 rfl ?_
    refine ck_get (v := .int (nI nc)) hx hb hts hinX4 hown hK hW hND_18 hFD_40 rfl 2 (by decide) (hts _ (List.mem_of_getElem? (i := 1) rfl)) rfl rfl dX4_newCall_43 ?_
    refine lv_iconst (v := 1) hx hb dX4_newCall_46 (by decide) ?_
    refine lv_iadd hx hb dX4_newCall_47 ?_
    refine lv_topi (fun y9 ey9 => ?_)
    have ey8 : y9 = nI (nc + 1) := ey9.trans (nI_1 nc)
    subst ey8
    refine ck_put (v := .int (nI (nc + 1))) (ty := .int) hx hb hts hinX4 tyX4 tyX4_ok nmX4 hown hK hW hS hND_18 hFD_40 rfl 2 (by decide) (hts _ (List.mem_of_getElem? (i := 1) rfl)) rfl rfl (by decide +kernel) rfl rfl (Nat.le_of_ble_eq_true rfl) dX4_newCall_48 (fun H locs hW hS hz48 => ?_)
    obtain ⟨F_48, hFe48, hFo48, hW⟩ := ck_name hW
    have hSz : G.2.2.2 ≤ H.size := by omega
    have hFA2_48 := (hFo48 2 (by omega)).trans hFe40
    have hFnw_48 := (hFo48 (100 + nc) (by omega)).trans hFnw_40
    have hKK := hKK0.keep hS.2.1
    refine lv_aload hx hb dX4_newCall_51 (lv_at hl 0 rfl) ?_
    exact W.aret (v := va_rf (some ((ad (100 + nc))))) hx hb hr (Or.inl ⟨_, rfl⟩) (va_rf_or _) (fun t ht hW9 => ⟨⟨some ((ad (100 + nc))), rfl, by rw [ht]; exact Or.inl ⟨hln, rfl, N_18, F_48, hNs18, hNo18, hW, hC.addCall hNs18 hNi18 hln (hfr hln) hFe48 hFA2_48 (ck_newf hg2) hFnw_48 (fun j h1 h2 h3 => (hFo48 j h1).trans ((hFo40 j h2).trans ((hFo27 j h3).trans (hFo18 j h3)))), fun j h1 h2 => (hFo48 j (by omega)).trans ((hFo40 j (by omega)).trans ((hFo27 j (by omega)).trans (hFo18 j (by omega))))⟩⟩, hS.F ht⟩) hS.2.2 dX4_newCall_53
  · skip
    refine lv_iload hx hb dX4_newCall_6 (lv_at hl 0 rfl) ?_
    refine lv_aload_n hx hb dX4_newCall_8 rfl (lv_at hl 1 rfl) ?_
    refine ck_get (v := .ref (ad 2)) hx hb hts hinX4 hown hK hW (hC.n 0 (by decide)) hC.f0 rfl 1 (by decide) (hts _ (List.mem_of_getElem? (i := 2) rfl)) rfl rfl dX4_newCall_9 ?_
    refine ck_alen (v := 60) hx hb hK hW (hC.n 2 (by decide)) hG2 2 rfl rfl dX4_newCall_12 ?_
    refine lv_icmp_lt (tgt := 18) hx hb dX4_newCall_13 (by decide) (fun c_13 => absurd c_13 (ck_nltI (n := nc) (m := 60) (by have := hC.nc; omega))) (fun _ => ?_)
    refine lv_null hx hb dX4_newCall_16 ?_
    refine W.widen (k := 1) (n := 8) (by decide) (by decide) ?_
    exact W.aret (v := va_rf (none)) hx hb hr (Or.inl ⟨_, rfl⟩) (va_rf_or _) (fun t ht hW9 => ⟨⟨none, rfl, by rw [ht]; exact Or.inr ⟨by have := hC.nc; omega, rfl, hW⟩⟩, hS.F ht⟩) hS.2.2 dX4_newCall_17
