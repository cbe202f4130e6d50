theorem ck_9999 {a : Int32} (h : 0 ≤ a ∧ a ≤ 9999) : ∃ m, m < 10000 ∧ a = nI m := by
  rcases pk_ix a (show 10000 < 2 ^ 31 by decide) with h3 | h3 | h3
  · exact absurd h3 (Int32.not_lt.mpr h.1)
  · exact absurd (Int32.le_trans h3 h.2) (by decide)
  · exact h3
theorem ck_name2 {G : ck_G} {ad : Nat → Nat} {N : Nat → Prop} {F : Nat → va_E} {H : Heap} {i j : Nat} {e1 e2 : va_E} (hij : j ≠ i) (h : ck_W G ad N (va_up (va_up F j e1) i e2) H) : ∃ F1, F1 j = e1 ∧ F1 i = e2 ∧ (∀ q, q ≠ i → q ≠ j → F1 q = F q) ∧ ck_W G ad N F1 H :=
  ⟨_, by rw [va_up_ne _ _ hij, va_up_self], va_up_self _ _ _, fun q h1 h2 => by rw [va_up_ne _ _ h1, va_up_ne _ _ h2], h⟩
theorem ck_C.setSrc {G : ck_G} {ad : Nat → Nat} {V V1 : Nat → Nat → Int32} {L L1 : Nat → Nat → Int64} {nc nr : Nat} {N : Nat → Prop} {F F1 : Nat → va_E} (h : ck_C G ad V L nc nr N F) {k : Nat} (hk : k < 3) (hV : ∀ i, (i < 14 ∨ 17 < i) → V1 i = V i) (hV2 : ∀ i j, j ≠ k → V1 i j = V i j) (hL : ∀ j, j ≠ k → L1 j = L j) (e1 : F1 (5 + k) = .inr (3, [.ref (ad (8 + k)), .int (V1 14 k), .int (V1 16 k), .int (V1 17 k), .int (V1 15 k)])) (e2 : F1 (8 + k) = .inl (G.2.1 1, 157, .inr (.inl (L1 k)))) (o : ∀ q, q ≠ 5 + k → q ≠ 8 + k → F1 q = F q) : ck_C G ad V1 L1 nc nr N F1 := by
  have hn := h.nc
  exact ⟨h.nc, h.nr, (o 0 (by omega) (by omega)).trans (by rw [hV 13 (by decide)]; exact h.f0), (by obtain ⟨f, e3, e4⟩ := h.f1; exact ⟨f, (o 1 (by omega) (by omega)).trans e3, e4⟩), (by obtain ⟨f, e3, e4⟩ := h.f2; exact ⟨f, (o 2 (by omega) (by omega)).trans e3, e4⟩), (by obtain ⟨f, e3, e4⟩ := h.f3; exact ⟨f, (o 3 (by omega) (by omega)).trans e3, e4⟩), (by obtain ⟨f, e3, e4⟩ := h.f4; exact ⟨f, (o 4 (by omega) (by omega)).trans e3, e4⟩), (fun q hq => by
    by_cases e9 : q = k
    · subst e9; exact e1
    · exact (o (5 + q) (by omega) (by omega)).trans (by rw [hV2 14 q e9, hV2 16 q e9, hV2 17 q e9, hV2 15 q e9]; exact h.src q hq)), (fun q hq => by
    by_cases e9 : q = k
    · subst e9; exact e2
    · exact (o (8 + q) (by omega) (by omega)).trans (by rw [hL q e9]; exact h.del q hq)), (fun q hq => (o (11 + q) (by omega) (by omega)).trans (h.car q hq)), (fun q hq => (o (15 + q) (by omega) (by omega)).trans (by rw [hV (20 + q) (by omega)]; exact h.pre q hq)), (fun q hq => (o (19 + q) (by omega) (by omega)).trans (by rw [hV (24 + q) (by omega)]; exact h.pri q hq)), (fun q hq => (o (100 + q) (by omega) (by omega)).trans (by rw [hV 0 (by decide), hV 1 (by decide), hV 2 (by decide), hV 3 (by decide), hV 4 (by decide), hV 5 (by decide), hV 6 (by decide)]; exact h.call q hq)), (fun q hq => (o (200 + q) (by omega) (by omega)).trans (by rw [hV 7 (by decide), hV 8 (by decide), hV 9 (by decide), hV 10 (by decide), hV 11 (by decide), hV 12 (by decide)]; exact h.rate q hq)), h.n, h.ncall, h.nrate⟩
def ck_srcC (V : Nat → Nat → Int32) (q : Nat) (s : Int32) : Nat → Nat → Int32 := va_up (va_up (va_up V 14 (upd (V 14) q (V 14 q + 1))) 16 (upd (V 16) q (ck_min (V 16 q) s))) 17 (upd (V 17) q (ck_max (V 17 q) s))
theorem ck_C.setDbl {G : ck_G} {ad : Nat → Nat} {V : Nat → Nat → Int32} {L : Nat → Nat → Int64} {nc nr : Nat} {N : Nat → Prop} {F F1 : Nat → va_E} (h : ck_C G ad V L nc nr N F) {k : Nat} (hk : k < 3) {x : Int32} (e : F1 (5 + k) = .inr (3, [.ref (ad (8 + k)), .int (V 14 k), .int (V 16 k), .int (V 17 k), .int x])) (o : ∀ q, q ≠ 5 + k → F1 q = F q) : ck_C G ad (va_up V 15 (upd (V 15) k x)) L nc nr N F1 :=
  h.setSrc hk (fun i hi => va_up_ne _ _ (by omega)) (fun i j hj => by by_cases h5 : i = 15 <;> simp [va_up, upd, h5, hj]) (fun _ _ => rfl) (e.trans (by simp [va_up, upd])) ((o _ (by omega)).trans (h.del k hk)) (fun q h1 _ => o q h1)
theorem ck_C.setAdd {G : ck_G} {ad : Nat → Nat} {V : Nat → Nat → Int32} {L : Nat → Nat → Int64} {nc nr : Nat} {N : Nat → Prop} {F F1 : Nat → va_E} (h : ck_C G ad V L nc nr N F) {k s : Nat} (hk : k < 3) (e2 : F1 (8 + k) = .inl (G.2.1 1, 157, .inr (.inl (vp_updL (L k) (s / 64) (L k (s / 64) ||| ck_bit (nI s)))))) (e1 : F1 (5 + k) = .inr (3, [.ref (ad (8 + k)), .int (V 14 k + 1), .int (ck_min (V 16 k) (nI s)), .int (ck_max (V 17 k) (nI s)), .int (V 15 k)])) (o : ∀ q, q ≠ 5 + k → q ≠ 8 + k → F1 q = F q) : ck_C G ad (ck_srcC V k (nI s)) (ck_recL L k s) nc nr N F1 :=
  h.setSrc hk (fun i hi => by unfold ck_srcC; rw [va_up_ne _ _ (by omega), va_up_ne _ _ (by omega), va_up_ne _ _ (by omega)]) (fun i j hj => by
    simp only [ck_srcC, va_up, upd]
    repeat' split
    all_goals simp_all [upd]) (fun j hj => va_up_ne _ _ hj) (e1.trans (by simp [ck_srcC, va_up, upd])) (e2.trans (by unfold ck_recL; rw [va_up_self])) o
theorem ck_C.setLeg {G : ck_G} {ad : Nat → Nat} {V : Nat → Nat → Int32} {L : Nat → Nat → Int64} {nc nr : Nat} {N : Nat → Prop} {F F1 : Nat → va_E} (h : ck_C G ad V L nc nr N F) {k q : Nat} (hk : k < nc) {x : Int32} (e : F1 (100 + k) = .inr (0, [.int (nI k), .int (V 0 k), .int (V 1 k), .int (V 2 k), .int (ck_leg (V 3 k) (nI q)), .int (ck_max (V 4 k) x), .int (V 5 k), .int (V 6 k)])) (o : ∀ j, j ≠ 100 + k → F1 j = F j) : ck_C G ad (ck_leg3 V k q x) L nc nr N F1 :=
  h.setCall hk (fun i hi => by unfold ck_leg3; rw [va_up_ne _ _ (by omega), va_up_ne _ _ (by omega)]) (fun i j hj => by
    simp only [ck_leg3, va_up, upd]
    repeat' split
    all_goals simp_all [upd]) (e.trans (by simp [ck_leg3, va_up, upd])) o
/-- what the class's record does -/
def ck_RrecC (V : Nat → Nat → Int32) (L : Nat → Nat → Int64) (nc : Nat) (a0 a1 a2 a3 a4 k r : Int32) (V1 : Nat → Nat → Int32) (L1 : Nat → Nat → Int64) (nc1 : Nat) : Prop :=
  (¬ (ck_ok a0 3 ∧ (0 ≤ a1 ∧ a1 ≤ 9999) ∧ ck_isN a2 ∧ (0 ≤ a3 ∧ a3 ≤ 999999) ∧ (0 ≤ a4 ∧ a4 ≤ 10000)) ∧ k = 1 ∧ V1 = V ∧ L1 = L ∧ nc1 = nc) ∨
  (((0 ≤ a1 ∧ a1 ≤ 9999) ∧ ck_isN a2 ∧ (0 ≤ a3 ∧ a3 ≤ 999999) ∧ (0 ≤ a4 ∧ a4 ≤ 10000)) ∧ ∃ q, q < 3 ∧ a0 = nI q ∧ ∃ s, s < 10000 ∧ a1 = nI s ∧
    ((¬ (L q (s / 64) &&& ck_bit (nI s)) = 0 ∧ k = 0 ∧ r = -1 ∧ V1 = va_up V 15 (upd (V 15) q (V 15 q + 1)) ∧ L1 = L ∧ nc1 = nc) ∨
     (¬ ¬ (L q (s / 64) &&& ck_bit (nI s)) = 0 ∧ (∃ j, j < nc ∧ ck_jn (ck_mt V (V 13 0) a0 a2 a3 a4) 0 nc = j ∧ k = 0 ∧ r = nI j ∧ V1 = ck_leg3 (ck_srcC V q (nI s)) j q a4 ∧ L1 = ck_recL L q s ∧ nc1 = nc)) ∨
     (¬ ¬ (L q (s / 64) &&& ck_bit (nI s)) = 0 ∧ ck_jn (ck_mt V (V 13 0) a0 a2 a3 a4) 0 nc = nc ∧ nc < 60 ∧ k = 0 ∧ r = nI nc ∧ V1 = ck_leg3 (ck_srcC (ck_new3 V nc a2 a3 a4) q (nI s)) nc q a4 ∧ L1 = ck_recL L q s ∧ nc1 = nc + 1) ∨
     (¬ ¬ (L q (s / 64) &&& ck_bit (nI s)) = 0 ∧ ck_jn (ck_mt V (V 13 0) a0 a2 a3 a4) 0 nc = nc ∧ nc = 60 ∧ k = 2 ∧ V1 = V ∧ L1 = L ∧ nc1 = nc)))
set_option maxHeartbeats 4000000 in
set_option maxRecDepth 100000 in
theorem ct_X4_record (l : Launch) (G : ck_G) (H : Heap) (ad : Nat → Nat) (N : Nat → Prop) (F : Nat → va_E) (hW : ck_W G ad N F H) (V : Nat → Nat → Int32) (L : Nat → Nat → Int64) (nc nr : Nat) (hC : ck_C G ad V L nc nr N F) (hlt : l.stackTraces = false) (a0 a1 a2 a3 a4 : Int32) (hfr : nc < 60 → V 3 nc = 0 ∧ V 4 nc = 0 ∧ V 5 nc = -1 ∧ V 6 nc = 0) (hnw : ¬ N (100 + nc)) (haw : ad (100 + nc) = H.size) : vx_Met l yX4_record wsX4_record ({ frames := 6, cells := 2, slots := 14, locals := 90 }) (ck_P G H [.ref (ad 0), .int a0, .int a1, .int a2, .int a3, .int a4]) (ck_Qi G (fun r H1 => ∃ V1 L1 nc1 N1 F1, ck_RrecC V L nc a0 a1 a2 a3 a4 0 r V1 L1 nc1 ∧ (∀ i, N i → N1 i) ∧ (∀ i, N1 i → N i ∨ i = 100 + nc) ∧ ck_W G ad N1 F1 H1 ∧ ck_C G ad V1 L1 nc1 nr N1 F1 ∧ ck_sD F F1)) (ck_Xc G (fun E => ∃ k r, ck_RrecC V L nc a0 a1 a2 a3 a4 k r V L nc ∧ ck_ex2 ck_IAE ck_ISE k E) ad N F) 2 14 (ck_A G) := by
  refine vx_ofW (cc := cX4_record) (maxL := 8) (ret := (some .int)) (by decide) rfl ?_
  intro p e s m args below meth c s₁ B hml hnx hv
  obtain ⟨rfl, hH, hKK⟩ := hv
  subst hH
  have hx := B.exec
  have hb := B.bytes
  have hr := B.returns
  have hts := atoms_spec (ws := wsX4_record) B.pre
  have hown : s.vm.findClass RX4 = some m.cls := findClass_of_methodNamed B.named
  have hlocks := B.notSynchronized
  have hKK0 := hKK
  have hK := hKK.1.1
  have hS : va_S (ck_A G) s.heap s.heap [] := va_S.rf
  have hinX3 : ∀ w ∈ u_ws RX3 TX3 5, w ∈ wsX4_record := by decide +kernel
  have hinX0 : ∀ w ∈ u_ws RX0 TX0 8, w ∈ wsX4_record := by decide +kernel
  have hl := lv_entry ([.ref (ad 0), .int a0, .int a1, .int a2, .int a3, .int a4]) (n := 8) (Nat.le_of_ble_eq_true rfl)
  rw [lg_entry_eq]
  generalize (lg_sl ([.ref (ad 0), .int a0, .int a1, .int a2, .int a3, .int a4]) ++ List.replicate (8 - (lg_sl ([.ref (ad 0), .int a0, .int a1, .int a2, .int a3, .int a4])).length) Slot.unset).toArray = ls at hl ⊢
  have hl : lv_has ls 8 [(0, .ref (ad 0)), (1, .int a0), (2, .int a1), (3, .int a2), (4, .int a3), (5, .int a4)] := hl
  have hsm : ck_sD F F := fun _ _ _ => rfl
  refine lv_aload_n hx hb dX4_record_0 rfl (lv_at hl 0 rfl) ?_
  refine lv_iload_n hx hb dX4_record_1 rfl (lv_at hl 1 rfl) ?_
  refine ck_cVq (As := [.int a0]) (rest := []) ⟨hx, hb, hml, hown, hts⟩ hKK (ct_X4_sourceAt l G s.heap ad N F hW V L nc nr hC a0) (cwV 1 hts gX4_record_X4_sourceAt rfl rfl rfl (by decide +kernel) ⟨Nat.le_of_ble_eq_true rfl, Nat.le_of_ble_eq_true rfl⟩) (ck_recv hK hW (hC.n 0 (by decide)) hC.f0 rfl) rfl hl rfl (Nat.le_of_ble_eq_true rfl) dX4_record_2 ⟨Nat.le_of_ble_eq_true rfl, Nat.le_of_ble_eq_true rfl⟩ (fun r_2 h_2 => ?_)
  rcases h_2 with ⟨j2, hj2, e2, rfl⟩ | ⟨hno2, rfl⟩
  · skip
    refine lv_astore (lv' := [(6, .ref (ad (5 + j2))), (0, .ref (ad 0)), (1, .int a0), (2, .int a1), (3, .int a2), (4, .int a3), (5, .int a4)]) hx hb dX4_record_5 hl (by decide) rfl (fun ls hl => ?_)
    refine lv_aload hx hb dX4_record_7 (lv_at hl 0 rfl) ?_
    refine lv_ifnull hx hb dX4_record_9 ?_
    refine lv_iload_n hx hb dX4_record_12 rfl (lv_at hl 3 rfl) ?_
    refine lv_iconst (v := 0) hx hb dX4_record_13 (by decide) ?_
    refine lv_sipush (v := 9999) hx hb dX4_record_14 (by decide) ?_
    refine ck_cSi (As := [.int a1, .int 0, .int 9999]) (rest := []) ⟨hx, hb, hml, hown, hts⟩ hKK (ct_X4_within l G s.heap a1 0 9999) (va_cwS 3 hts gX4_record_X4_within rfl rfl rfl (by decide +kernel) ⟨Nat.le_of_ble_eq_true rfl, Nat.le_of_ble_eq_true rfl⟩) rfl hl rfl (Nat.le_of_ble_eq_true rfl) dX4_record_17 ⟨Nat.le_of_ble_eq_true rfl, Nat.le_of_ble_eq_true rfl⟩ (fun r_17 h_17 => ?_)
    rcases h_17 with ⟨h_17, rfl⟩ | ⟨h_17, rfl⟩
    · skip
      refine lv_if_eq (tgt := 53) hx hb dX4_record_20 (by decide) (fun c_20 => absurd c_20 (by decide)) (fun _ => ?_)
      refine lv_iload_n hx hb dX4_record_23 rfl (lv_at hl 4 rfl) ?_
      refine ck_cSi (As := [.int a2]) (rest := []) ⟨hx, hb, hml, hown, hts⟩ hKK (ct_X4_isNumber l G s.heap a2) (va_cwS 1 hts gX4_record_X4_isNumber rfl rfl rfl (by decide +kernel) ⟨Nat.le_of_ble_eq_true rfl, Nat.le_of_ble_eq_true rfl⟩) rfl hl rfl (Nat.le_of_ble_eq_true rfl) dX4_record_24 ⟨Nat.le_of_ble_eq_true rfl, Nat.le_of_ble_eq_true rfl⟩ (fun r_24 h_24 => ?_)
      rcases h_24 with ⟨h_24, rfl⟩ | ⟨h_24, rfl⟩
      · skip
        refine lv_if_eq (tgt := 53) hx hb dX4_record_27 (by decide) (fun c_27 => absurd c_27 (by decide)) (fun _ => ?_)
        refine lv_iload hx hb dX4_record_30 (lv_at hl 5 rfl) ?_
        refine lv_iconst (v := 0) hx hb dX4_record_32 (by decide) ?_
        refine lv_ldc (v := 999999) hx hb hown (hts _ (List.mem_of_getElem? (i := 5) rfl)) dX4_record_33 ?_
        refine ck_cSi (As := [.int a3, .int 0, .int 999999]) (rest := []) ⟨hx, hb, hml, hown, hts⟩ hKK (ct_X4_within l G s.heap a3 0 999999) (va_cwS 3 hts gX4_record_X4_within rfl rfl rfl (by decide +kernel) ⟨Nat.le_of_ble_eq_true rfl, Nat.le_of_ble_eq_true rfl⟩) rfl hl rfl (Nat.le_of_ble_eq_true rfl) dX4_record_35 ⟨Nat.le_of_ble_eq_true rfl, Nat.le_of_ble_eq_true rfl⟩ (fun r_35 h_35 => ?_)
        rcases h_35 with ⟨h_35, rfl⟩ | ⟨h_35, rfl⟩
        · skip
          refine lv_if_eq (tgt := 53) hx hb dX4_record_38 (by decide) (fun c_38 => absurd c_38 (by decide)) (fun _ => ?_)
          refine lv_iload hx hb dX4_record_41 (lv_at hl 6 rfl) ?_
          refine lv_iconst (v := 0) hx hb dX4_record_43 (by decide) ?_
          refine lv_sipush (v := 10000) hx hb dX4_record_44 (by decide) ?_
          refine ck_cSi (As := [.int a4, .int 0, .int 10000]) (rest := []) ⟨hx, hb, hml, hown, hts⟩ hKK (ct_X4_within l G s.heap a4 0 10000) (va_cwS 3 hts gX4_record_X4_within rfl rfl rfl (by decide +kernel) ⟨Nat.le_of_ble_eq_true rfl, Nat.le_of_ble_eq_true rfl⟩) rfl hl rfl (Nat.le_of_ble_eq_true rfl) dX4_record_47 ⟨Nat.le_of_ble_eq_true rfl, Nat.le_of_ble_eq_true rfl⟩ (fun r_47 h_47 => ?_)
          rcases h_47 with ⟨h_47, rfl⟩ | ⟨h_47, rfl⟩
          · skip
            refine lv_if_ne (tgt := 63) hx hb dX4_record_50 (by decide) (fun _ => ?_) (fun c_50 => absurd c_50 (by decide))
            subst e2
            obtain ⟨sq, hsq, rfl⟩ := ck_9999 h_17
            refine lv_aload hx hb dX4_record_63 (lv_at hl 0 rfl) ?_
            refine lv_iload_n hx hb dX4_record_65 rfl (lv_at hl 3 rfl) ?_
            refine ck_cVi (As := [.int (nI sq)]) (rest := []) ⟨hx, hb, hml, hown, hts⟩ hKK (ct_X3_has l G s.heap ad N F hW (5 + j2) (hC.n (5 + j2) (by omega)) (8 + j2) ((V 14 j2)) ((V 16 j2)) ((V 17 j2)) ((V 15 j2)) (hC.src j2 hj2) (hC.n (8 + j2) (by omega)) ((L j2)) (hC.del j2 hj2) sq hsq) (cwV 1 hts gX4_record_X3_has rfl rfl rfl (by decide +kernel) ⟨Nat.le_of_ble_eq_true rfl, Nat.le_of_ble_eq_true rfl⟩) (ck_recv hK hW (hC.n (5 + j2) (by omega)) (hC.src j2 hj2) rfl) rfl hl rfl (Nat.le_of_ble_eq_true rfl) dX4_record_66 ⟨Nat.le_of_ble_eq_true rfl, Nat.le_of_ble_eq_true rfl⟩ (fun r_66 h_66 => ?_)
            rcases h_66 with ⟨h_66, rfl⟩ | ⟨h_66, rfl⟩
            · skip
              refine lv_if_eq (tgt := 85) hx hb dX4_record_69 (by decide) (fun c_69 => absurd c_69 (by decide)) (fun _ => ?_)
              refine lv_aload hx hb dX4_record_72 (lv_at hl 0 rfl) ?_
              refine lv_dup hx hb dX4_record_74 rfl ?_
              refine ck_get (v := .int (V 15 j2)) hx hb hts hinX3 hown hK hW (hC.n (5 + j2) (by omega)) (hC.src j2 hj2) rfl 4 (by decide) (hts _ (List.mem_of_getElem? (i := 6) rfl)) rfl rfl dX4_record_75 ?_
              refine lv_iconst (v := 1) hx hb dX4_record_78 (by decide) ?_
              refine lv_iadd hx hb dX4_record_79 ?_
              refine ck_put (v := .int (((V 15 j2)) + 1)) (ty := .int) hx hb hts hinX3 tyX3 tyX3_ok nmX3 hown hK hW hS (hC.n (5 + j2) (by omega)) (hC.src j2 hj2) rfl 4 (by decide) (hts _ (List.mem_of_getElem? (i := 6) rfl)) rfl rfl (by decide +kernel) rfl rfl (Nat.le_of_ble_eq_true rfl) dX4_record_80 (fun H locs hW hS hz80 => ?_)
              obtain ⟨F_80, hFe80, hFo80, hW⟩ := ck_name hW
              have hC := hC.setDbl hj2 hFe80 hFo80
              have hsm := hsm.put (by omega) hFo80
              have hKK := hKK0.keep hS.2.1
              refine lv_iconst (v := (-1)) hx hb dX4_record_83 (by decide) ?_
              refine W.widen (k := 2) (n := 14) (by decide) (by decide) ?_
              exact vx_ret (W.iret (v := (-1)) hx hb hr (fun t ht hW9 => ⟨⟨_, rfl, by rw [ht]; exact ⟨_, _, _, N, F_80, Or.inr ⟨⟨h_17, h_24, h_35, h_47⟩, j2, hj2, rfl, sq, hsq, rfl, Or.inl ⟨h_66, rfl, rfl, rfl, rfl, rfl⟩⟩, fun _ h => h, fun _ h => Or.inl h, hW, hC, hsm⟩⟩, hS.F ht⟩) hS.2.2 dX4_record_84)
            · skip
              refine lv_if_eq (tgt := 85) hx hb dX4_record_69 (by decide) (fun _ => ?_) (fun c_69 => absurd (by decide) c_69)
              refine lv_aload_n hx hb dX4_record_85 rfl (lv_at hl 1 rfl) ?_
              refine lv_iload_n hx hb dX4_record_86 rfl (lv_at hl 2 rfl) ?_
              refine lv_iload_n hx hb dX4_record_87 rfl (lv_at hl 4 rfl) ?_
              refine lv_iload hx hb dX4_record_88 (lv_at hl 5 rfl) ?_
              refine lv_iload hx hb dX4_record_90 (lv_at hl 6 rfl) ?_
              refine ck_cVq (As := [.int (nI j2), .int a2, .int a3, .int a4]) (rest := []) ⟨hx, hb, hml, hown, hts⟩ hKK (ct_X4_callJoinedBy l G s.heap ad N F hW V L nc nr hC ((nI j2)) a2 a3 a4) (cwV 4 hts gX4_record_X4_callJoinedBy rfl rfl rfl (by decide +kernel) ⟨Nat.le_of_ble_eq_true rfl, Nat.le_of_ble_eq_true rfl⟩) (ck_recv hK hW (hC.n 0 (by decide)) hC.f0 rfl) rfl hl rfl (Nat.le_of_ble_eq_true rfl) dX4_record_92 ⟨Nat.le_of_ble_eq_true rfl, Nat.le_of_ble_eq_true rfl⟩ (fun r_92 h_92 => ?_)
              rcases h_92 with ⟨j92, hj92, e_92, rfl⟩ | ⟨e_92, rfl⟩
              · skip
                refine lv_astore (lv' := [(7, .ref (ad (100 + j92))), (6, .ref (ad (5 + j2))), (0, .ref (ad 0)), (1, .int (nI j2)), (2, .int (nI sq)), (3, .int a2), (4, .int a3), (5, .int a4)]) hx hb dX4_record_95 hl (by decide) rfl (fun ls hl => ?_)
                refine lv_aload hx hb dX4_record_97 (lv_at hl 0 rfl) ?_
                refine lv_ifnonnull (tgt := 113) hx hb dX4_record_99 (by decide) ?_
                refine lv_aload hx hb dX4_record_113 (lv_at hl 0 rfl) ?_
                refine lv_ifnonnull (tgt := 128) hx hb dX4_record_115 (by decide) ?_
                refine lv_aload hx hb dX4_record_128 (lv_at hl 1 rfl) ?_
                refine lv_iload_n hx hb dX4_record_130 rfl (lv_at hl 4 rfl) ?_
                refine ck_cVn (As := [.int (nI sq)]) (rest := []) ⟨hx, hb, hml, hown, hts⟩ hKK (ct_X3_add l G s.heap ad N F hW (5 + j2) (hC.n (5 + j2) (by omega)) (8 + j2) ((V 14 j2)) ((V 16 j2)) ((V 17 j2)) ((V 15 j2)) (hC.src j2 hj2) (hC.n (8 + j2) (by omega)) ((L j2)) (hC.del j2 hj2) (by omega) sq hsq) (cwV 1 hts gX4_record_X3_add rfl rfl rfl (by decide +kernel) ⟨Nat.le_of_ble_eq_true rfl, Nat.le_of_ble_eq_true rfl⟩) (ck_recv hK hW (hC.n (5 + j2) (by omega)) (hC.src j2 hj2) rfl) rfl hl rfl (Nat.le_of_ble_eq_true rfl) dX4_record_131 ⟨Nat.le_of_ble_eq_true rfl, Nat.le_of_ble_eq_true rfl⟩ hS (fun H locs h_131 hz_131 hS => ?_)
                have hKK := hKK0.keep hS.2.1
                obtain ⟨F_131, hFj131, hFi131, hFo131, hW⟩ := ck_name2 (by omega) h_131
                have hC := hC.setAdd (s := sq) hj2 hFj131 hFi131 hFo131
                have hsm : ck_sD F F_131 := fun q h1 h2 => (hFo131 q (by omega) (by omega)).trans (hsm q h1 h2)
                refine lv_aload hx hb dX4_record_134 (lv_at hl 0 rfl) ?_
                refine lv_iload_n hx hb dX4_record_136 rfl (lv_at hl 3 rfl) ?_
                refine lv_iload hx hb dX4_record_137 (lv_at hl 7 rfl) ?_
                refine ck_cVn (As := [.int (nI j2), .int a4]) (rest := []) ⟨hx, hb, hml, hown, hts⟩ hKK (ct_X0_addLeg l G H ad N F_131 hW (100 + j92) (hC.ncall j92 hj92) ((nI j92)) ((V 0 j92)) ((V 1 j92)) ((V 2 j92)) ((V 3 j92)) ((V 4 j92)) ((V 5 j92)) ((V 6 j92)) (hC.call j92 hj92) ((nI j2)) a4) (cwV 2 hts gX4_record_X0_addLeg rfl rfl rfl (by decide +kernel) ⟨Nat.le_of_ble_eq_true rfl, Nat.le_of_ble_eq_true rfl⟩) (ck_recv hK hW (hC.ncall j92 hj92) (hC.call j92 hj92) rfl) rfl hl rfl (Nat.le_of_ble_eq_true rfl) dX4_record_139 ⟨Nat.le_of_ble_eq_true rfl, Nat.le_of_ble_eq_true rfl⟩ hS (fun H locs h_139 hz_139 hS => ?_)
                have hKK := hKK0.keep hS.2.1
                obtain ⟨F_139, hFe139, hFo139, hW⟩ := ck_name h_139
                have hC := hC.setLeg (q := j2) hj92 hFe139 hFo139
                have hsm := hsm.put (by omega) hFo139
                refine lv_aload hx hb dX4_record_142 (lv_at hl 0 rfl) ?_
                refine ck_get (v := .int (nI j92)) hx hb hts hinX0 hown hK hW (hC.ncall j92 hj92) hFe139 rfl 0 (by decide) (hts _ (List.mem_of_getElem? (i := 7) rfl)) rfl rfl dX4_record_144 ?_
                refine W.widen (k := 2) (n := 14) (by decide) (by decide) ?_
                exact vx_ret (W.iret (v := (nI j92)) hx hb hr (fun t ht hW9 => ⟨⟨_, rfl, by rw [ht]; exact ⟨_, _, _, N, F_139, Or.inr ⟨⟨h_17, h_24, h_35, h_47⟩, j2, hj2, rfl, sq, hsq, rfl, Or.inr (Or.inl ⟨h_66, j92, hj92, e_92, rfl, rfl, rfl, rfl, rfl⟩)⟩, fun _ h => h, fun _ h => Or.inl h, hW, hC, hsm⟩⟩, hS.F ht⟩) hS.2.2 dX4_record_147)
              · skip
                refine lv_astoreN (lv' := [(7, .null), (6, .ref (ad (5 + j2))), (0, .ref (ad 0)), (1, .int (nI j2)), (2, .int (nI sq)), (3, .int a2), (4, .int a3), (5, .int a4)]) hx hb dX4_record_95 hl (by decide) rfl (fun ls hl => ?_)
                refine lv_aloadN hx hb dX4_record_97 (lv_at hl 0 rfl) ?_
                refine lv_ifnonnullN hx hb dX4_record_99 ?_
                refine lv_aload_n hx hb dX4_record_102 rfl (lv_at hl 2 rfl) ?_
                refine lv_iload_n hx hb dX4_record_103 rfl (lv_at hl 5 rfl) ?_
                refine lv_iload hx hb dX4_record_104 (lv_at hl 6 rfl) ?_
                refine lv_iload hx hb dX4_record_106 (lv_at hl 7 rfl) ?_
                refine ck_cVr (As := [.int a2, .int a3, .int a4]) (rest := []) ⟨hx, hb, hml, hown, hts⟩ hKK (ct_X4_newCall l G s.heap ad N F hW V L nc nr hC a2 a3 a4 hfr hnw haw) (cwV 3 hts gX4_record_X4_newCall rfl rfl rfl (by decide +kernel) ⟨Nat.le_of_ble_eq_true rfl, Nat.le_of_ble_eq_true rfl⟩) (ck_recv hK hW (hC.n 0 (by decide)) hC.f0 rfl) rfl hl rfl (Nat.le_of_ble_eq_true rfl) dX4_record_108 ⟨Nat.le_of_ble_eq_true rfl, Nat.le_of_ble_eq_true rfl⟩ hS (fun r_108 H locs h_108 hz_108 hS => ?_)
                have hKK := hKK0.keep hS.2.1
                rcases h_108 with ⟨hn60, rfl, N_108, F_108, hNs108, hNo108, hW, hC, hs108⟩ | ⟨hn60, rfl, hW⟩
                · skip
                  have hsm := hsm.tr hs108
                  refine lv_astore (lv' := [(7, .ref (ad (100 + nc))), (6, .ref (ad (5 + j2))), (0, .ref (ad 0)), (1, .int (nI j2)), (2, .int (nI sq)), (3, .int a2), (4, .int a3), (5, .int a4)]) hx hb dX4_record_111 hl (by decide) rfl (fun ls hl => ?_)
                  refine lv_aload hx hb dX4_record_113 (lv_at hl 0 rfl) ?_
                  refine lv_ifnonnull (tgt := 128) hx hb dX4_record_115 (by decide) ?_
                  refine lv_aload hx hb dX4_record_128 (lv_at hl 1 rfl) ?_
                  refine lv_iload_n hx hb dX4_record_130 rfl (lv_at hl 4 rfl) ?_
                  refine ck_cVn (As := [.int (nI sq)]) (rest := []) ⟨hx, hb, hml, hown, hts⟩ hKK (ct_X3_add l G H ad N_108 F_108 hW (5 + j2) (hC.n (5 + j2) (by omega)) (8 + j2) ((V 14 j2)) ((V 16 j2)) ((V 17 j2)) ((V 15 j2)) (hC.src j2 hj2) (hC.n (8 + j2) (by omega)) ((L j2)) (hC.del j2 hj2) (by omega) sq hsq) (cwV 1 hts gX4_record_X3_add rfl rfl rfl (by decide +kernel) ⟨Nat.le_of_ble_eq_true rfl, Nat.le_of_ble_eq_true rfl⟩) (ck_recv hK hW (hC.n (5 + j2) (by omega)) (hC.src j2 hj2) rfl) rfl hl rfl (Nat.le_of_ble_eq_true rfl) dX4_record_131 ⟨Nat.le_of_ble_eq_true rfl, Nat.le_of_ble_eq_true rfl⟩ hS (fun H locs h_131 hz_131 hS => ?_)
                  have hKK := hKK0.keep hS.2.1
                  obtain ⟨F_131, hFj131, hFi131, hFo131, hW⟩ := ck_name2 (by omega) h_131
                  have hC := hC.setAdd (s := sq) hj2 hFj131 hFi131 hFo131
                  have hsm : ck_sD F F_131 := fun q h1 h2 => (hFo131 q (by omega) (by omega)).trans (hsm q h1 h2)
                  refine lv_aload hx hb dX4_record_134 (lv_at hl 0 rfl) ?_
                  refine lv_iload_n hx hb dX4_record_136 rfl (lv_at hl 3 rfl) ?_
                  refine lv_iload hx hb dX4_record_137 (lv_at hl 7 rfl) ?_
                  refine ck_cVn (As := [.int (nI j2), .int a4]) (rest := []) ⟨hx, hb, hml, hown, hts⟩ hKK (ct_X0_addLeg l G H ad N_108 F_131 hW (100 + nc) (hC.ncall nc (Nat.lt_succ_self nc)) ((nI nc)) (((ck_new3 V nc a2 a3 a4) 0 nc)) (((ck_new3 V nc a2 a3 a4) 1 nc)) (((ck_new3 V nc a2 a3 a4) 2 nc)) (((ck_new3 V nc a2 a3 a4) 3 nc)) (((ck_new3 V nc a2 a3 a4) 4 nc)) (((ck_new3 V nc a2 a3 a4) 5 nc)) (((ck_new3 V nc a2 a3 a4) 6 nc)) (hC.call nc (Nat.lt_succ_self nc)) ((nI j2)) a4) (cwV 2 hts gX4_record_X0_addLeg rfl rfl rfl (by decide +kernel) ⟨Nat.le_of_ble_eq_true rfl, Nat.le_of_ble_eq_true rfl⟩) (ck_recv hK hW (hC.ncall nc (Nat.lt_succ_self nc)) (hC.call nc (Nat.lt_succ_self nc)) rfl) rfl hl rfl (Nat.le_of_ble_eq_true rfl) dX4_record_139 ⟨Nat.le_of_ble_eq_true rfl, Nat.le_of_ble_eq_true rfl⟩ hS (fun H locs h_139 hz_139 hS => ?_)
                  have hKK := hKK0.keep hS.2.1
                  obtain ⟨F_139, hFe139, hFo139, hW⟩ := ck_name h_139
                  have hC := hC.setLeg (q := j2) (Nat.lt_succ_self nc) hFe139 hFo139
                  have hsm := hsm.put (by omega) hFo139
                  refine lv_aload hx hb dX4_record_142 (lv_at hl 0 rfl) ?_
                  refine ck_get (v := .int (nI nc)) hx hb hts hinX0 hown hK hW (hC.ncall nc (Nat.lt_succ_self nc)) hFe139 rfl 0 (by decide) (hts _ (List.mem_of_getElem? (i := 7) rfl)) rfl rfl dX4_record_144 ?_
                  refine W.widen (k := 2) (n := 14) (by decide) (by decide) ?_
                  exact vx_ret (W.iret (v := (nI nc)) hx hb hr (fun t ht hW9 => ⟨⟨_, rfl, by rw [ht]; exact ⟨_, _, _, N_108, F_139, Or.inr ⟨⟨h_17, h_24, h_35, h_47⟩, j2, hj2, rfl, sq, hsq, rfl, Or.inr (Or.inr (Or.inl ⟨h_66, e_92, hn60, rfl, rfl, rfl, rfl, rfl⟩))⟩, hNs108, hNo108, hW, hC, hsm⟩⟩, hS.F ht⟩) hS.2.2 dX4_record_147)
                · skip
                  refine lv_astoreN (lv' := [(7, .null), (6, .ref (ad (5 + j2))), (0, .ref (ad 0)), (1, .int (nI j2)), (2, .int (nI sq)), (3, .int a2), (4, .int a3), (5, .int a4)]) hx hb dX4_record_111 hl (by decide) rfl (fun ls hl => ?_)
                  refine lv_aloadN hx hb dX4_record_113 (lv_at hl 0 rfl) ?_
                  refine lv_ifnonnullN hx hb dX4_record_115 ?_
                  exact ck_throw (cls := "java/lang/IllegalStateException") (text := "there are 60 calls") hx hb hlt hown hKK0 (by decide +kernel) (by decide +kernel) (hts _ (List.mem_of_getElem? (i := 3) rfl)) (hts _ (List.mem_of_getElem? (i := 4) rfl)) (List.mem_of_getElem? (i := 2) rfl) (List.mem_of_getElem? (i := 1) rfl) (fun w hw => hts w (List.mem_cons_of_mem _ (List.mem_append.mpr (Or.inr hw)))) (by decide +kernel) (by decide +kernel) hS (hl.1.trans hml.symm) dX4_record_118 dX4_record_121 dX4_record_122 dX4_record_124 dX4_record_127 hnx (Nat.le_of_ble_eq_true rfl) (Nat.le_of_ble_eq_true rfl) (Nat.le_of_ble_eq_true rfl) (Nat.le_of_ble_eq_true rfl) hlocks (Nat.le_of_ble_eq_true rfl) (Nat.le_of_ble_eq_true rfl) hW (⟨2, 0, Or.inr ⟨⟨h_17, h_24, h_35, h_47⟩, j2, hj2, rfl, sq, hsq, rfl, Or.inr (Or.inr (Or.inr ⟨h_66, e_92, hn60, rfl, rfl, rfl, rfl⟩))⟩, Or.inr ⟨rfl, rfl⟩⟩)
          · skip
            refine lv_if_ne (tgt := 63) hx hb dX4_record_50 (by decide) (fun c_50 => absurd (by decide) c_50) (fun _ => ?_)
            exact ck_throw (cls := "java/lang/IllegalArgumentException") (text := "a parameter of the record is out of range") hx hb hlt hown hKK0 (by decide +kernel) (by decide +kernel) (hts _ (List.mem_of_getElem? (i := 1) rfl)) (hts _ (List.mem_of_getElem? (i := 2) rfl)) (List.mem_of_getElem? (i := 1) rfl) (List.mem_of_getElem? (i := 0) rfl) (fun w hw => hts w (List.mem_cons_of_mem _ (List.mem_append.mpr (Or.inl (List.mem_append.mpr (Or.inr hw)))))) (by decide +kernel) (by decide +kernel) hS (hl.1.trans hml.symm) dX4_record_53 dX4_record_56 dX4_record_57 dX4_record_59 dX4_record_62 hnx (Nat.le_of_ble_eq_true rfl) (Nat.le_of_ble_eq_true rfl) (Nat.le_of_ble_eq_true rfl) (Nat.le_of_ble_eq_true rfl) hlocks (Nat.le_of_ble_eq_true rfl) (Nat.le_of_ble_eq_true rfl) hW (⟨1, 0, Or.inl ⟨fun z => h_47 z.2.2.2.2, rfl, rfl, rfl, rfl⟩, Or.inl ⟨rfl, rfl⟩⟩)
        · skip
          refine lv_if_eq (tgt := 53) hx hb dX4_record_38 (by decide) (fun _ => ?_) (fun c_38 => absurd (by decide) c_38)
          exact ck_throw (cls := "java/lang/IllegalArgumentException") (text := "a parameter of the record is out of range") hx hb hlt hown hKK0 (by decide +kernel) (by decide +kernel) (hts _ (List.mem_of_getElem? (i := 1) rfl)) (hts _ (List.mem_of_getElem? (i := 2) rfl)) (List.mem_of_getElem? (i := 1) rfl) (List.mem_of_getElem? (i := 0) rfl) (fun w hw => hts w (List.mem_cons_of_mem _ (List.mem_append.mpr (Or.inl (List.mem_append.mpr (Or.inr hw)))))) (by decide +kernel) (by decide +kernel) hS (hl.1.trans hml.symm) dX4_record_53 dX4_record_56 dX4_record_57 dX4_record_59 dX4_record_62 hnx (Nat.le_of_ble_eq_true rfl) (Nat.le_of_ble_eq_true rfl) (Nat.le_of_ble_eq_true rfl) (Nat.le_of_ble_eq_true rfl) hlocks (Nat.le_of_ble_eq_true rfl) (Nat.le_of_ble_eq_true rfl) hW (⟨1, 0, Or.inl ⟨fun z => h_35 z.2.2.2.1, rfl, rfl, rfl, rfl⟩, Or.inl ⟨rfl, rfl⟩⟩)
      · skip
        refine lv_if_eq (tgt := 53) hx hb dX4_record_27 (by decide) (fun _ => ?_) (fun c_27 => absurd (by decide) c_27)
        exact ck_throw (cls := "java/lang/IllegalArgumentException") (text := "a parameter of the record is out of range") hx hb hlt hown hKK0 (by decide +kernel) (by decide +kernel) (hts _ (List.mem_of_getElem? (i := 1) rfl)) (hts _ (List.mem_of_getElem? (i := 2) rfl)) (List.mem_of_getElem? (i := 1) rfl) (List.mem_of_getElem? (i := 0) rfl) (fun w hw => hts w (List.mem_cons_of_mem _ (List.mem_append.mpr (Or.inl (List.mem_append.mpr (Or.inr hw)))))) (by decide +kernel) (by decide +kernel) hS (hl.1.trans hml.symm) dX4_record_53 dX4_record_56 dX4_record_57 dX4_record_59 dX4_record_62 hnx (Nat.le_of_ble_eq_true rfl) (Nat.le_of_ble_eq_true rfl) (Nat.le_of_ble_eq_true rfl) (Nat.le_of_ble_eq_true rfl) hlocks (Nat.le_of_ble_eq_true rfl) (Nat.le_of_ble_eq_true rfl) hW (⟨1, 0, Or.inl ⟨fun z => h_24 z.2.2.1, rfl, rfl, rfl, rfl⟩, Or.inl ⟨rfl, rfl⟩⟩)
    · skip
      refine lv_if_eq (tgt := 53) hx hb dX4_record_20 (by decide) (fun _ => ?_) (fun c_20 => absurd (by decide) c_20)
      exact ck_throw (cls := "java/lang/IllegalArgumentException") (text := "a parameter of the record is out of range") hx hb hlt hown hKK0 (by decide +kernel) (by decide +kernel) (hts _ (List.mem_of_getElem? (i := 1) rfl)) (hts _ (List.mem_of_getElem? (i := 2) rfl)) (List.mem_of_getElem? (i := 1) rfl) (List.mem_of_getElem? (i := 0) rfl) (fun w hw => hts w (List.mem_cons_of_mem _ (List.mem_append.mpr (Or.inl (List.mem_append.mpr (Or.inr hw)))))) (by decide +kernel) (by decide +kernel) hS (hl.1.trans hml.symm) dX4_record_53 dX4_record_56 dX4_record_57 dX4_record_59 dX4_record_62 hnx (Nat.le_of_ble_eq_true rfl) (Nat.le_of_ble_eq_true rfl) (Nat.le_of_ble_eq_true rfl) (Nat.le_of_ble_eq_true rfl) hlocks (Nat.le_of_ble_eq_true rfl) (Nat.le_of_ble_eq_true rfl) hW (⟨1, 0, Or.inl ⟨fun z => h_17 z.2.1, rfl, rfl, rfl, rfl⟩, Or.inl ⟨rfl, rfl⟩⟩)
  · skip
    refine lv_astoreN (lv' := [(6, .null), (0, .ref (ad 0)), (1, .int a0), (2, .int a1), (3, .int a2), (4, .int a3), (5, .int a4)]) hx hb dX4_record_5 hl (by decide) rfl (fun ls hl => ?_)
    refine lv_aloadN hx hb dX4_record_7 (lv_at hl 0 rfl) ?_
    refine lv_ifnullN (tgt := 53) hx hb dX4_record_9 (by decide) ?_
    exact ck_throw (cls := "java/lang/IllegalArgumentException") (text := "a parameter of the record is out of range") hx hb hlt hown hKK0 (by decide +kernel) (by decide +kernel) (hts _ (List.mem_of_getElem? (i := 1) rfl)) (hts _ (List.mem_of_getElem? (i := 2) rfl)) (List.mem_of_getElem? (i := 1) rfl) (List.mem_of_getElem? (i := 0) rfl) (fun w hw => hts w (List.mem_cons_of_mem _ (List.mem_append.mpr (Or.inl (List.mem_append.mpr (Or.inr hw)))))) (by decide +kernel) (by decide +kernel) hS (hl.1.trans hml.symm) dX4_record_53 dX4_record_56 dX4_record_57 dX4_record_59 dX4_record_62 hnx (Nat.le_of_ble_eq_true rfl) (Nat.le_of_ble_eq_true rfl) (Nat.le_of_ble_eq_true rfl) (Nat.le_of_ble_eq_true rfl) hlocks (Nat.le_of_ble_eq_true rfl) (Nat.le_of_ble_eq_true rfl) hW (⟨1, 0, Or.inl ⟨fun z => hno2 z.1, rfl, rfl, rfl, rfl⟩, Or.inl ⟨rfl, rfl⟩⟩)
