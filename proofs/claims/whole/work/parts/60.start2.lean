set_option maxHeartbeats 4000000 in
set_option maxRecDepth 100000 in
/-- THE LAW, from its entry -/
theorem whole_start {p : Program} {e : Env} {s : State} {m : MethodId} {below : List Frame} {meth : Method} {c : Code} (l : Launch) (hflags : l.flags = flags0) {b L : Nat} {xs : Nat → Int32} (hL : L ≤ 3584) (C0 : lw_At p s m meth c b L xs) : W p l e room_1 s m #[Value.ref b] below meth c s.heap [] 0 0 (lw_Z below #[Value.ref b] s) (entryFrame m ([Value.ref b] : List Value).toArray 7) := by
  obtain ⟨hx, hb, hr, hml, hown, hts0, hX, hbl, hlocks, hgv⟩ := id C0
  obtain ⟨G, hGz, hKK0⟩ := ck_begin hts0 hgv
  have hlt := ck_notrace hflags
  have hts : ∀ w ∈ wsL_law, w.before #[Value.ref b] s = true := fun w h => hts0 w (wsL_law_in w h)
  have hown : s.vm.findClass RL = some m.cls := hown
  have hK := hKK0.1.1
  have hS : va_S (ck_A G) s.heap s.heap [] := va_S.rf
  have hl := lv_entry ([.ref b]) (n := 7) (Nat.le_of_ble_eq_true rfl)
  rw [lg_entry_eq]
  generalize (lg_sl ([.ref b]) ++ List.replicate (7 - (lg_sl ([.ref b])).length) Slot.unset).toArray = ls at hl ⊢
  have hl : lv_has ls 7 [(0, .ref b)] := hl
  obtain ⟨z, hz0⟩ : ∃ z, z = s.heap.size := ⟨_, rfl⟩
  obtain ⟨ad, had⟩ : ∃ ad : Nat → Nat, ad = fun i => z + ck_off i := ⟨_, rfl⟩
  have hC0 : ck_adC ad (z + 1) := by rw [had]; exact ck_off_C z
  have hM0 : ck_adM ad (z + 24) := by rw [had]; exact ck_off_M z
  have a0 : ad 0 = z := by rw [had]; rfl
  have a30 : ad 30 = z + 23 := by rw [had]; rfl
  have a52 : ad 52 = z + 45 := by rw [had]; rfl
  clear had
  have hW : ck_W G ad (fun _ => False) (fun _ => .inr (0, [])) s.heap := ⟨fun _ h => h.elim, fun _ _ h => h.elim⟩
  have hSz : G.2.2.2 ≤ s.heap.size := by rw [hGz]; exact Nat.le_refl _
  refine ck_newO (ci := 4) hx hb hts inlX4 tyX4 tyX4_ok hown (hts0 _ (by decide +kernel)) (hts0 _ (by decide +kernel)) (hts0 _ (by decide +kernel)) hK hW hS hSz 0 (fun h => h) (a0.trans hz0) rfl [.null, .null, .int 0, .int 0, .null, .int 0, .int 0, .null] (fun j hj => by rcases (show j = 0 ∨ j = 1 ∨ j = 2 ∨ j = 3 ∨ j = 4 ∨ j = 5 ∨ j = 6 ∨ j = 7 by omega) with rfl | rfl | rfl | rfl | rfl | rfl | rfl | rfl <;> rfl) (Nat.le_of_ble_eq_true rfl) (Nat.le_of_ble_eq_true rfl) dL_law_0 (fun N0 F0 H hNw hS hz1 => ?_)
  obtain ⟨hNs0, hNo0, hNi0, hFe0, hFo0, hW⟩ := hNw
  have hSz : G.2.2.2 ≤ H.size := by omega
  have hKK := hKK0.keep hS.2.1
  refine lv_dup hx hb dL_law_3 rfl ?_
  refine ck_cIn (As := []) (rest := [.ref (ad 0)]) ⟨hx, hb, hml, hown, hts⟩ hKK (ct_X4_init l G H ad N0 F0 hW hSz hNi0 (fun i h1 h2 h3 => by rcases hNo0 i h3 with h4 | h4; exact h4; omega) (by rw [hz1, ← hz0]; exact hC0) hFe0) (cwI 0 hts gL_law_X4_init rfl rfl rfl (hts0 _ (by decide +kernel)) (hts0 _ (by decide +kernel)) (hts0 _ (by decide +kernel)) rfl (by decide +kernel) ⟨Nat.le_of_ble_eq_true rfl, Nat.le_of_ble_eq_true rfl⟩) rfl hl rfl (Nat.le_of_ble_eq_true rfl) dL_law_4 ⟨Nat.le_of_ble_eq_true rfl, Nat.le_of_ble_eq_true rfl⟩ hS (fun H locs hP hz2 hS => ?_)
  obtain ⟨N1, F1, hNs1, hNo1, hC, hsU, hW, hz2⟩ := hP
  have hN1 : ∀ i, i < 23 → N1 i := hC.n
  have hzz : H.size = z + 23 := by omega
  have hSz : G.2.2.2 ≤ H.size := by omega
  refine lv_astore_n (lv' := [(1, .ref (ad 0)), (0, .ref b)]) hx hb dL_law_7 rfl hl (by decide) rfl (fun ls hl => ?_)
  have hn30 : ¬ N1 30 := fun h => by rcases hNo0 30 (hNo1 30 (by decide) h) with h4 | h4; exact h4; omega
  have hn31 : ∀ i, 31 ≤ i → i < 53 → ¬ N1 i := fun i h1 h2 h => by rcases hNo0 i (hNo1 i (by omega) h) with h4 | h4; exact h4; omega
  refine ck_newO (ci := 5) hx hb hts inlX5 tyX5 tyX5_ok hown (hts0 _ (by decide +kernel)) (hts0 _ (by decide +kernel)) (hts0 _ (by decide +kernel)) hK hW hS hSz 30 hn30 (by omega) rfl [.int 0, .null, .null, .null, .null, .null, .int 0, .null, .null, .null, .null, .null, .null, .null, .int 0, .int 0, .null, .null, .null, .null, .null, .null, .null, .null, .null, .int 0] (fun j hj => by rcases (show j = 0 ∨ j = 1 ∨ j = 2 ∨ j = 3 ∨ j = 4 ∨ j = 5 ∨ j = 6 ∨ j = 7 ∨ j = 8 ∨ j = 9 ∨ j = 10 ∨ j = 11 ∨ j = 12 ∨ j = 13 ∨ j = 14 ∨ j = 15 ∨ j = 16 ∨ j = 17 ∨ j = 18 ∨ j = 19 ∨ j = 20 ∨ j = 21 ∨ j = 22 ∨ j = 23 ∨ j = 24 ∨ j = 25 by omega) with rfl | rfl | rfl | rfl | rfl | rfl | rfl | rfl | rfl | rfl | rfl | rfl | rfl | rfl | rfl | rfl | rfl | rfl | rfl | rfl | rfl | rfl | rfl | rfl | rfl | rfl <;> rfl) (Nat.le_of_ble_eq_true rfl) (Nat.le_of_ble_eq_true rfl) dL_law_8 (fun N2 F2 H hNw hS hz3 => ?_)
  obtain ⟨hNs2, hNo2, hNi2, hFe2, hFo2, hW⟩ := hNw
  have hC : ck_C G ad ck_V0 ck_L0 0 0 N2 F2 := (hC.fE (fun i hi => hFo2 i (by omega))).nE (fun i hi => hNs2 _ (hC.n i hi)) (fun k hk => absurd hk (Nat.not_lt_zero k)) (fun k hk => absurd hk (Nat.not_lt_zero k))
  have hSz : G.2.2.2 ≤ H.size := by omega
  have hKK := hKK0.keep hS.2.1
  refine lv_dup hx hb dL_law_11 rfl ?_
  refine ck_cIn (As := []) (rest := [.ref (ad 30)]) ⟨hx, hb, hml, hown, hts⟩ hKK (ct_X5_init l G H ad N2 F2 hW hSz hNi2 (fun i h1 h2 h3 => by rcases hNo2 i h3 with h4 | h4; exact hn31 i h1 (by omega) h4; omega) (by rw [hz3, hzz]; exact hM0) hFe2) (cwI 0 hts gL_law_X5_init rfl rfl rfl (hts0 _ (by decide +kernel)) (hts0 _ (by decide +kernel)) (hts0 _ (by decide +kernel)) rfl (by decide +kernel) ⟨Nat.le_of_ble_eq_true rfl, Nat.le_of_ble_eq_true rfl⟩) rfl hl rfl (Nat.le_of_ble_eq_true rfl) dL_law_12 ⟨Nat.le_of_ble_eq_true rfl, Nat.le_of_ble_eq_true rfl⟩ hS (fun H locs hP hz4 hS => ?_)
  obtain ⟨N3, F3, hNs3, hNo3, hM, hsM, hW, hz4⟩ := hP
  have hC : ck_C G ad ck_V0 ck_L0 0 0 N3 F3 := (hC.fE (fun i hi => hsM i (by omega))).nE (fun i hi => hNs3 _ (hC.n i hi)) (fun k hk => absurd hk (Nat.not_lt_zero k)) (fun k hk => absurd hk (Nat.not_lt_zero k))
  have hzz : H.size = z + 45 := by omega
  have hSz : G.2.2.2 ≤ H.size := by omega
  refine lv_astore_n (lv' := [(2, .ref (ad 30)), (1, .ref (ad 0)), (0, .ref b)]) hx hb dL_law_15 rfl hl (by decide) rfl (fun ls hl => ?_)
  refine lv_iconst (v := 1) hx hb dL_law_16 (by decide) ?_
  have hn52 : ¬ N3 52 := fun h => by rcases hNo2 52 (hNo3 52 (by decide) h) with h4 | h4; exact hn31 52 (by decide) (by decide) h4; omega
  refine ck_newL hx hb (hts0 _ (by decide +kernel)) hK hW hS hSz 52 hn52 (by omega) 1 (by decide) (by decide) (by decide) (Nat.le_of_ble_eq_true rfl) (Nat.le_of_ble_eq_true rfl) dL_law_17 (fun N4 F4 H hNw hS hz5 => ?_)
  obtain ⟨hNs4, hNo4, hNi4, hFe4, hFo4, hW⟩ := hNw
  have hC : ck_C G ad ck_V0 ck_L0 0 0 (ck_Nn 0 0) F4 := (hC.fE (fun i hi => hFo4 i (by omega))).nE (fun i hi => Or.inl hi) (fun k hk => absurd hk (Nat.not_lt_zero k)) (fun k hk => absurd hk (Nat.not_lt_zero k))
  have hM4 : ck_M G ad ck_V0 ck_L0 0 0 0 (ck_Nn 0 0) F4 := hM.fE (fun i h1 h2 => hFo4 i (by omega)) (fun i h1 h2 => Or.inr (Or.inl (by omega)))
  have hle : ∀ i, ck_Nn 0 0 i → N4 i := fun i hi => by
    rcases hi with h | ⟨h1, h2⟩ | ⟨h1, h2⟩ | ⟨h1, h2⟩
    · exact hNs4 i (hNs3 i (hNs2 i (hN1 i h)))
    · by_cases c : i = 52
      · rw [c]; exact hNi4
      · exact hNs4 i (hM.n i h1 (by omega))
    · omega
    · omega
  have hSt : ck_S G (ad 0) (ad 30) (ad 52) 0 H := ⟨ad, F4, ck_V0, ck_L0, 0, 0, 0, (fun _ => 0), hW.less hle, hC, hM4, ck_J0, hFe4, rfl, rfl, rfl⟩
  refine lv_astore_n (lv' := [(3, .ref (ad 52)), (2, .ref (ad 30)), (1, .ref (ad 0)), (0, .ref b)]) hx hb dL_law_19 rfl hl (by decide) rfl (fun ls hl => ?_)
  refine lv_iconst (v := 0) hx hb dL_law_20 (by decide) ?_
  refine lv_istore (lv' := [(4, .int (nI 0)), (3, .ref (ad 52)), (2, .ref (ad 30)), (1, .ref (ad 0)), (0, .ref b)]) hx hb dL_law_21 hl (by decide) rfl (fun ls hl => ?_)
  exact ck_loopLaw hlt C0 hKK0 hGz hL 512 0 0 rfl rfl H _ ls hS hSt hl
